/-! THE REFERENCE'S SMALL METHODS -/
def RF (ρ : St) : Prop := (∀ h, h < 24 → ρ 6 h = 0 ∨ ρ 6 h = 1) ∧ (∀ h, h < 24 → ρ 11 h = 0 ∨ ρ 11 h = 1) ∧ (∀ j, j < 12 → -1 ≤ ρ 12 j ∧ ρ 12 j ≤ 3)
def RN_ (ρ : St) : Prop := ∀ h, h < 24 → ρ 6 h = 1 → ∃ A n : Nat, ρ 8 h = A ∧ ρ 7 h = n ∧ A + n ≤ 2048 ∧ 0 ≤ ρ 10 h ∧ ρ 10 h ≤ 1000
def rNm (g : Nat × Nat × Nat × Nat) (ρ : St) (h : Int) : Prop := ∃ n : Nat, h = n ∧ n < g.2.2.1 ∧ ρ 6 n = 1
def rOp (g : Nat × Nat × Nat × Nat) (ρ : St) (h : Int) : Prop := ∃ n : Nat, h = n ∧ n < g.2.2.1 ∧ ρ 6 n = 1 ∧ ρ 11 n = 0
def rJb (g : Nat × Nat × Nat × Nat) (ρ : St) (j : Int) : Prop := ∃ n : Nat, j = n ∧ n < g.2.2.2 ∧ 0 ≤ ρ 12 n
abbrev rNd (g : Nat × Nat × Nat × Nat) (ρ : St) (h : Int) : Prop := 0 ≤ h ∧ h < g.2.2.1 ∧ ρ 6 h.toNat = 1
abbrev rJd (g : Nat × Nat × Nat × Nat) (ρ : St) (j : Int) : Prop := 0 ≤ j ∧ j < g.2.2.2 ∧ 0 ≤ ρ 12 j.toNat
theorem nd {g : Nat × Nat × Nat × Nat} {ρ : St} {h : Int} : rNm g ρ h ↔ rNd g ρ h := ⟨fun ⟨n, e, h1, h2⟩ => by rw [e]; exact ⟨by omega, by omega, by rw [Int.toNat_natCast]; exact h2⟩, fun ⟨h1, h2, h3⟩ => ⟨h.toNat, by omega, by omega, h3⟩⟩
theorem jd {g : Nat × Nat × Nat × Nat} {ρ : St} {h : Int} : rJb g ρ h ↔ rJd g ρ h := ⟨fun ⟨n, e, h1, h2⟩ => by rw [e]; exact ⟨by omega, by omega, by rw [Int.toNat_natCast]; exact h2⟩, fun ⟨h1, h2, h3⟩ => ⟨h.toNat, by omega, by omega, h3⟩⟩
def bSize (g : Nat × Nat × Nat × Nat) (ρ : St) (h : Int) : Int := if rNd g ρ h then ρ 7 h.toNat else -1
def bState (g : Nat × Nat × Nat × Nat) (ρ : St) (j : Int) : Int := if rJd g ρ j then ρ 12 j.toNat else -1
def bResult (g : Nat × Nat × Nat × Nat) (ρ : St) (j : Int) : Int := if rJd g ρ j ∧ (ρ 12 j.toNat = 1 ∨ ρ 12 j.toNat = 2) then ρ 18 j.toNat else -1
def bWork (g : Nat × Nat × Nat × Nat) (ρ : St) (j : Int) : Int := if rJd g ρ j then (if ρ 12 j.toNat ≤ 1 then ρ 17 j.toNat else 0) else -1
def bNumber (g : Nat × Nat × Nat × Nat) (ρ : St) (h w : Int) : Int := if rNd g ρ h then (if w = 0 then ρ 8 h.toNat else if w = 1 then ρ 9 h.toNat else if w = 2 then ρ 10 h.toNat else -1) else -1
def bLimb (g : Nat × Nat × Nat × Nat) (ρ : St) (h i : Int) : Int := if rNd g ρ h ∧ ρ 11 h.toNat = 0 ∧ 0 ≤ i ∧ i < ρ 7 h.toNat then ρ 4 (ρ 8 h.toNat + i).toNat else -1
def bSet (g : Nat × Nat × Nat × Nat) (ρ : St) (h i w : Int) : Prop := rNm g ρ h ∧ 0 ≤ w ∧ ρ 10 h.toNat = 0 ∧ 0 ≤ i ∧ i < ρ 7 h.toNat
def sumA (f : Nat → Int) : Nat → Int
  | 0 => 0
  | n + 1 => sumA f n + (if 0 ≤ f n then 2 ^ (f n).toNat else 0)
set_option maxHeartbeats 4000000 in
set_option maxRecDepth 100000 in
theorem r_isThere {l : Launch} {D : va_G} {ad : Nat → Nat} {g : Nat × Nat × Nat × Nat} (hg : 3 ≤ g.1 ∧ g.1 ≤ 11 ∧ 8 ≤ g.2.1 ∧ g.2.1 ≤ 2048 ∧ 1 ≤ g.2.2.1 ∧ g.2.2.1 ≤ 24 ∧ 1 ≤ g.2.2.2 ∧ g.2.2.2 ≤ 12) (ρ : St) (hs : RS g ρ) (hF : RF ρ) (h : Int) (rg_h : -2147483648 ≤ h ∧ h < 2147483648) : Rt l D ad yX6_isThere (Cond.code yX6_isThere cX6_isThere 2 (some .boolean) :: tb) 0 0 [.ref (ad 0), vi h] ρ (fun v ρ' => ρ = ρ' ∧ ∃ x : Int, v = some (vi x) ∧ ((x = 1 ∧ rNm g ρ h) ∨ (x = 0 ∧ ¬ rNm g ρ h))) := by
  refine ct_of (by decide) rfl (Nat.le_of_ble_eq_true rfl) ?_
  intro p e s m below meth c C
  change X _ _ _ _ _ _ _ _ _ _ _ _ _ _ _ _ [(0, .ref (ad 0)), (1, vi h)] _
  refine x_iload_n C dX6_isThere_0 rfl rfl ?_
  refine x_if_lt (tgt := 25) C dX6_isThere_1 (by decide) (by omega) (fun c_1 => ?_) (fun c_1 => ?_)
  · refine x_iconst C dX6_isThere_25 ?_
    exact x_zret C dX6_isThere_26 (by omega) ⟨_, rfl, rfl, _, rfl, Or.inr ⟨rfl, fun q => by obtain ⟨n, rfl, -⟩ := q; omega⟩⟩
  · refine x_iload_n C dX6_isThere_4 rfl rfl ?_
    refine x_aload_n C dX6_isThere_5 rfl rfl ?_
    refine x_get C (Cn := RX6) (T := TX6) (N := 33) (ci := 6) 2 dX6_isThere_6 m_w_6 m_f_RX6_92 rfl (by decide) rfl rfl ?_
    rw [hs.2.2]
    refine x_icmp_ge (tgt := 25) C dX6_isThere_9 (by decide) (by omega) (by omega) (fun c_9 => ?_) (fun c_9 => ?_)
    · skip
      refine x_iconst C dX6_isThere_25 ?_
      exact x_zret C dX6_isThere_26 (by omega) ⟨_, rfl, rfl, _, rfl, Or.inr ⟨rfl, fun q => by obtain ⟨n, rfl, hn, -⟩ := q; omega⟩⟩
    · obtain ⟨n, rfl⟩ : ∃ n : Nat, h = n := ⟨h.toNat, by omega⟩
      have hf := hF.1 n (by omega)
      refine x_aload_n C dX6_isThere_12 rfl rfl ?_
      refine x_get C (Cn := RX6) (T := TX6) (N := 33) (ci := 6) 6 dX6_isThere_13 m_w_6 m_f_RX6_16 rfl (by decide) rfl rfl ?_
      refine x_iload_n C dX6_isThere_16 rfl rfl ?_
      refine x_zald C dX6_isThere_17 rfl (by omega) (by omega) ?_
      rw [Int.toNat_natCast]
      refine x_if_eq (tgt := 25) C dX6_isThere_18 (by decide) (by omega) (fun c_18 => ?_) (fun c_18 => ?_)
      · refine x_iconst C dX6_isThere_25 ?_
        refine x_zret C dX6_isThere_26 (by omega) ⟨_, rfl, rfl, _, rfl, Or.inr ⟨rfl, fun q => ?_⟩⟩
        obtain ⟨n1, e, -, e2⟩ := q
        obtain rfl : n = n1 := by omega
        omega
      · refine x_iconst C dX6_isThere_21 ?_
        refine x_goto (tgt := 26) C dX6_isThere_22 (by decide) ?_
        exact x_zret C dX6_isThere_26 (by omega) ⟨_, rfl, rfl, _, rfl, Or.inl ⟨rfl, n, rfl, by omega, by omega⟩⟩
set_option maxHeartbeats 4000000 in
set_option maxRecDepth 100000 in
theorem r_isJob {l : Launch} {D : va_G} {ad : Nat → Nat} {g : Nat × Nat × Nat × Nat} (hg : 3 ≤ g.1 ∧ g.1 ≤ 11 ∧ 8 ≤ g.2.1 ∧ g.2.1 ≤ 2048 ∧ 1 ≤ g.2.2.1 ∧ g.2.2.1 ≤ 24 ∧ 1 ≤ g.2.2.2 ∧ g.2.2.2 ≤ 12) (ρ : St) (hs : RS g ρ) (hF : RF ρ) (j : Int) (rg_j : -2147483648 ≤ j ∧ j < 2147483648) : Rt l D ad yX6_isJob (Cond.code yX6_isJob cX6_isJob 2 (some .boolean) :: tb) 0 0 [.ref (ad 0), vi j] ρ (fun v ρ' => ρ = ρ' ∧ ∃ x : Int, v = some (vi x) ∧ ((x = 1 ∧ rJb g ρ j) ∨ (x = 0 ∧ ¬ rJb g ρ j))) := by
  refine ct_of (by decide) rfl (Nat.le_of_ble_eq_true rfl) ?_
  intro p e s m below meth c C
  change X _ _ _ _ _ _ _ _ _ _ _ _ _ _ _ _ [(0, .ref (ad 0)), (1, vi j)] _
  refine x_iload_n C dX6_isJob_0 rfl rfl ?_
  refine x_if_lt (tgt := 25) C dX6_isJob_1 (by decide) (by omega) (fun c_1 => ?_) (fun c_1 => ?_)
  · refine x_iconst C dX6_isJob_25 ?_
    exact x_zret C dX6_isJob_26 (by omega) ⟨_, rfl, rfl, _, rfl, Or.inr ⟨rfl, fun q => by obtain ⟨n, rfl, -⟩ := q; omega⟩⟩
  · refine x_iload_n C dX6_isJob_4 rfl rfl ?_
    refine x_aload_n C dX6_isJob_5 rfl rfl ?_
    refine x_get C (Cn := RX6) (T := TX6) (N := 33) (ci := 6) 1 dX6_isJob_6 m_w_6 m_f_RX6_89 rfl (by decide) rfl rfl ?_
    rw [hs.2.1]
    refine x_icmp_ge (tgt := 25) C dX6_isJob_9 (by decide) (by omega) (by omega) (fun c_9 => ?_) (fun c_9 => ?_)
    · refine x_iconst C dX6_isJob_25 ?_
      exact x_zret C dX6_isJob_26 (by omega) ⟨_, rfl, rfl, _, rfl, Or.inr ⟨rfl, fun q => by obtain ⟨n, rfl, hn, -⟩ := q; omega⟩⟩
    · obtain ⟨n, rfl⟩ : ∃ n : Nat, j = n := ⟨j.toNat, by omega⟩
      have hf := hF.2.2 n (by omega)
      refine x_aload_n C dX6_isJob_12 rfl rfl ?_
      refine x_get C (Cn := RX6) (T := TX6) (N := 33) (ci := 6) 12 dX6_isJob_13 m_w_6 m_f_RX6_35 rfl (by decide) rfl rfl ?_
      refine x_iload_n C dX6_isJob_16 rfl rfl ?_
      refine x_iald C dX6_isJob_17 rfl (by omega) (by omega) ?_
      rw [Int.toNat_natCast]
      refine x_if_lt (tgt := 25) C dX6_isJob_18 (by decide) (by omega) (fun c_18 => ?_) (fun c_18 => ?_)
      · refine x_iconst C dX6_isJob_25 ?_
        refine x_zret C dX6_isJob_26 (by omega) ⟨_, rfl, rfl, _, rfl, Or.inr ⟨rfl, fun q => ?_⟩⟩
        obtain ⟨n1, e, -, e2⟩ := q
        obtain rfl : n = n1 := by omega
        omega
      · refine x_iconst C dX6_isJob_21 ?_
        refine x_goto (tgt := 26) C dX6_isJob_22 (by decide) ?_
        exact x_zret C dX6_isJob_26 (by omega) ⟨_, rfl, rfl, _, rfl, Or.inl ⟨rfl, n, rfl, by omega, by omega⟩⟩
set_option maxHeartbeats 4000000 in
set_option maxRecDepth 100000 in
theorem r_isOperand {l : Launch} {D : va_G} {ad : Nat → Nat} {g : Nat × Nat × Nat × Nat} (hg : 3 ≤ g.1 ∧ g.1 ≤ 11 ∧ 8 ≤ g.2.1 ∧ g.2.1 ≤ 2048 ∧ 1 ≤ g.2.2.1 ∧ g.2.2.1 ≤ 24 ∧ 1 ≤ g.2.2.2 ∧ g.2.2.2 ≤ 12) (ρ : St) (hs : RS g ρ) (hF : RF ρ) (h : Int) (rg_h : -2147483648 ≤ h ∧ h < 2147483648) : Rt l D ad yX6_isOperand (Cond.code yX6_isOperand cX6_isOperand 2 (some .boolean) :: tb) 1 40 [.ref (ad 0), vi h] ρ (fun v ρ' => ρ = ρ' ∧ ∃ x : Int, v = some (vi x) ∧ ((x = 1 ∧ rOp g ρ h) ∨ (x = 0 ∧ ¬ rOp g ρ h))) := by
  refine ct_of (by decide) rfl (Nat.le_of_ble_eq_true rfl) ?_
  intro p e s m below meth c C
  change X _ _ _ _ _ _ _ _ _ _ _ _ _ _ _ _ [(0, .ref (ad 0)), (1, vi h)] _
  refine x_aload_n C dX6_isOperand_0 rfl rfl ?_
  refine x_iload_n C dX6_isOperand_1 rfl rfl ?_
  refine x_callV C (ci := 6) (nn := 1) (r_isThere hg ρ hs hF h rg_h) g_RX6_131 rfl (by decide +kernel) ⟨by first | decide | omega, by first | decide | omega⟩ rfl rfl rfl rfl rfl (Nat.le_of_ble_eq_true rfl) dX6_isOperand_2 (fun v h1 hp => ?_)
  obtain ⟨ρ1, rfl, rfl, x, rfl, hx⟩ := hp
  have hxr : 0 ≤ x ∧ x ≤ 1 := by rcases hx with ⟨h, -⟩ | ⟨h, -⟩ <;> omega
  refine x_if_eq (tgt := 21) C dX6_isOperand_5 (by decide) (by omega) (fun c_5 => ?_) (fun c_5 => ?_)
  · rcases hx with ⟨h1, -⟩ | ⟨-, hN⟩
    · omega
    refine x_iconst C dX6_isOperand_21 ?_
    refine x_zret C dX6_isOperand_22 (by omega) ⟨_, rfl, rfl, _, rfl, Or.inr ⟨rfl, fun q => ?_⟩⟩
    obtain ⟨n, e1, e2, e3, -⟩ := q
    exact hN ⟨n, e1, e2, e3⟩
  · rcases hx with ⟨-, hN⟩ | ⟨h0, -⟩
    rotate_left
    · exact absurd h0 c_5
    obtain ⟨n, rfl, hn, h6⟩ := id hN
    have hf := hF.2.1 n (by omega)
    refine x_aload_n C dX6_isOperand_8 rfl rfl ?_
    refine x_get C (Cn := RX6) (T := TX6) (N := 33) (ci := 6) 11 dX6_isOperand_9 m_w_6 m_f_RX6_32 rfl (by decide) rfl rfl ?_
    refine x_iload_n C dX6_isOperand_12 rfl rfl ?_
    refine x_zald C dX6_isOperand_13 rfl (by omega) (by omega) ?_
    rw [Int.toNat_natCast]
    refine x_if_ne (tgt := 21) C dX6_isOperand_14 (by decide) (by omega) (fun c_14 => ?_) (fun c_14 => ?_)
    · refine x_iconst C dX6_isOperand_21 ?_
      refine x_zret C dX6_isOperand_22 (by omega) ⟨_, rfl, rfl, _, rfl, Or.inr ⟨rfl, fun q => ?_⟩⟩
      obtain ⟨n1, e1, e2, e3, e4⟩ := q
      obtain rfl : n = n1 := by omega
      exact c_14 e4
    · refine x_iconst C dX6_isOperand_17 ?_
      refine x_goto (tgt := 22) C dX6_isOperand_18 (by decide) ?_
      exact x_zret C dX6_isOperand_22 (by omega) ⟨_, rfl, rfl, _, rfl, Or.inl ⟨rfl, n, rfl, hn, h6, by omega⟩⟩
set_option maxHeartbeats 4000000 in
set_option maxRecDepth 100000 in
theorem r_sizeOf {l : Launch} {D : va_G} {ad : Nat → Nat} {g : Nat × Nat × Nat × Nat} (hg : 3 ≤ g.1 ∧ g.1 ≤ 11 ∧ 8 ≤ g.2.1 ∧ g.2.1 ≤ 2048 ∧ 1 ≤ g.2.2.1 ∧ g.2.2.1 ≤ 24 ∧ 1 ≤ g.2.2.2 ∧ g.2.2.2 ≤ 12) (ρ : St) (hs : RS g ρ) (hF : RF ρ) (h : Int) (rg_h : -2147483648 ≤ h ∧ h < 2147483648) : Rt l D ad yX6_sizeOf (Cond.code yX6_sizeOf cX6_sizeOf 2 (some .int) :: tb) 1 40 [.ref (ad 0), vi h] ρ (fun v ρ' => ρ = ρ' ∧ v = some (vi (bSize g ρ h))) := by
  refine ct_of (by decide) rfl (Nat.le_of_ble_eq_true rfl) ?_
  intro p e s m below meth c C
  change X _ _ _ _ _ _ _ _ _ _ _ _ _ _ _ _ [(0, .ref (ad 0)), (1, vi h)] _
  refine x_aload_n C dX6_sizeOf_0 rfl rfl ?_
  refine x_iload_n C dX6_sizeOf_1 rfl rfl ?_
  refine x_callV C (ci := 6) (nn := 1) (r_isThere hg ρ hs hF h rg_h) g_RX6_131 rfl (by decide +kernel) ⟨by first | decide | omega, by first | decide | omega⟩ rfl rfl rfl rfl rfl (Nat.le_of_ble_eq_true rfl) dX6_sizeOf_2 (fun v h1 hp => ?_)
  obtain ⟨ρ1, rfl, rfl, x, rfl, hx⟩ := hp
  have hxr : 0 ≤ x ∧ x ≤ 1 := by rcases hx with ⟨h, -⟩ | ⟨h, -⟩ <;> omega
  refine x_if_eq (tgt := 17) C dX6_sizeOf_5 (by decide) (by omega) (fun c_5 => ?_) (fun c_5 => ?_)
  · rcases hx with ⟨h1, -⟩ | ⟨-, hN⟩
    · omega
    refine x_iconst C dX6_sizeOf_17 ?_
    exact x_iret C dX6_sizeOf_18 ⟨_, rfl, rfl, by first | rw [bSize, if_pos (nd.mp hN)] | rw [bSize, if_neg (mt nd.mpr hN)]⟩
  · rcases hx with ⟨-, hN⟩ | ⟨h0, -⟩
    rotate_left
    · exact absurd h0 c_5
    obtain ⟨n, rfl, hn, h6⟩ := id hN
    refine x_aload_n C dX6_sizeOf_8 rfl rfl ?_
    refine x_get C (Cn := RX6) (T := TX6) (N := 33) (ci := 6) 7 dX6_sizeOf_9 m_w_6 m_f_RX6_20 rfl (by decide) rfl rfl ?_
    refine x_iload_n C dX6_sizeOf_12 rfl rfl ?_
    refine x_iald C dX6_sizeOf_13 rfl (by omega) (by omega) ?_
    refine x_goto (tgt := 18) C dX6_sizeOf_14 (by decide) ?_
    exact x_iret C dX6_sizeOf_18 ⟨_, rfl, rfl, by first | rw [bSize, if_pos (nd.mp hN)] | rw [bSize, if_neg (mt nd.mpr hN)]⟩
set_option maxHeartbeats 4000000 in
set_option maxRecDepth 100000 in
theorem r_jobState {l : Launch} {D : va_G} {ad : Nat → Nat} {g : Nat × Nat × Nat × Nat} (hg : 3 ≤ g.1 ∧ g.1 ≤ 11 ∧ 8 ≤ g.2.1 ∧ g.2.1 ≤ 2048 ∧ 1 ≤ g.2.2.1 ∧ g.2.2.1 ≤ 24 ∧ 1 ≤ g.2.2.2 ∧ g.2.2.2 ≤ 12) (ρ : St) (hs : RS g ρ) (hF : RF ρ) (j : Int) (rg_j : -2147483648 ≤ j ∧ j < 2147483648) : Rt l D ad yX6_jobState (Cond.code yX6_jobState cX6_jobState 2 (some .int) :: tb) 1 40 [.ref (ad 0), vi j] ρ (fun v ρ' => ρ = ρ' ∧ v = some (vi (bState g ρ j))) := by
  refine ct_of (by decide) rfl (Nat.le_of_ble_eq_true rfl) ?_
  intro p e s m below meth c C
  change X _ _ _ _ _ _ _ _ _ _ _ _ _ _ _ _ [(0, .ref (ad 0)), (1, vi j)] _
  refine x_aload_n C dX6_jobState_0 rfl rfl ?_
  refine x_iload_n C dX6_jobState_1 rfl rfl ?_
  refine x_callV C (ci := 6) (nn := 1) (r_isJob hg ρ hs hF j rg_j) g_RX6_174 rfl (by decide +kernel) ⟨by first | decide | omega, by first | decide | omega⟩ rfl rfl rfl rfl rfl (Nat.le_of_ble_eq_true rfl) dX6_jobState_2 (fun v h1 hp => ?_)
  obtain ⟨ρ1, rfl, rfl, x, rfl, hx⟩ := hp
  have hxr : 0 ≤ x ∧ x ≤ 1 := by rcases hx with ⟨h, -⟩ | ⟨h, -⟩ <;> omega
  refine x_if_eq (tgt := 17) C dX6_jobState_5 (by decide) (by omega) (fun c_5 => ?_) (fun c_5 => ?_)
  · rcases hx with ⟨h1, -⟩ | ⟨-, hN⟩
    · omega
    refine x_iconst C dX6_jobState_17 ?_
    exact x_iret C dX6_jobState_18 ⟨_, rfl, rfl, by first | rw [bState, if_pos (jd.mp hN)] | rw [bState, if_neg (mt jd.mpr hN)]⟩
  · rcases hx with ⟨-, hN⟩ | ⟨h0, -⟩
    rotate_left
    · exact absurd h0 c_5
    obtain ⟨n, rfl, hn, h6⟩ := id hN
    refine x_aload_n C dX6_jobState_8 rfl rfl ?_
    refine x_get C (Cn := RX6) (T := TX6) (N := 33) (ci := 6) 12 dX6_jobState_9 m_w_6 m_f_RX6_35 rfl (by decide) rfl rfl ?_
    refine x_iload_n C dX6_jobState_12 rfl rfl ?_
    refine x_iald C dX6_jobState_13 rfl (by omega) (by omega) ?_
    refine x_goto (tgt := 18) C dX6_jobState_14 (by decide) ?_
    exact x_iret C dX6_jobState_18 ⟨_, rfl, rfl, by first | rw [bState, if_pos (jd.mp hN)] | rw [bState, if_neg (mt jd.mpr hN)]⟩
set_option maxHeartbeats 4000000 in
set_option maxRecDepth 100000 in
theorem r_jobResult {l : Launch} {D : va_G} {ad : Nat → Nat} {g : Nat × Nat × Nat × Nat} (hg : 3 ≤ g.1 ∧ g.1 ≤ 11 ∧ 8 ≤ g.2.1 ∧ g.2.1 ≤ 2048 ∧ 1 ≤ g.2.2.1 ∧ g.2.2.1 ≤ 24 ∧ 1 ≤ g.2.2.2 ∧ g.2.2.2 ≤ 12) (ρ : St) (hs : RS g ρ) (hF : RF ρ) (j : Int) (rg_j : -2147483648 ≤ j ∧ j < 2147483648) : Rt l D ad yX6_jobResult (Cond.code yX6_jobResult cX6_jobResult 2 (some .int) :: tb) 1 40 [.ref (ad 0), vi j] ρ (fun v ρ' => ρ = ρ' ∧ v = some (vi (bResult g ρ j))) := by
  refine ct_of (by decide) rfl (Nat.le_of_ble_eq_true rfl) ?_
  intro p e s m below meth c C
  change X _ _ _ _ _ _ _ _ _ _ _ _ _ _ _ _ [(0, .ref (ad 0)), (1, vi j)] _
  refine x_aload_n C dX6_jobResult_0 rfl rfl ?_
  refine x_iload_n C dX6_jobResult_1 rfl rfl ?_
  refine x_callV C (ci := 6) (nn := 1) (r_isJob hg ρ hs hF j rg_j) g_RX6_174 rfl (by decide +kernel) ⟨by first | decide | omega, by first | decide | omega⟩ rfl rfl rfl rfl rfl (Nat.le_of_ble_eq_true rfl) dX6_jobResult_2 (fun v h1 hp => ?_)
  obtain ⟨ρ1, rfl, rfl, x, rfl, hx⟩ := hp
  have hxr : 0 ≤ x ∧ x ≤ 1 := by rcases hx with ⟨h, -⟩ | ⟨h, -⟩ <;> omega
  refine x_if_eq (tgt := 37) C dX6_jobResult_5 (by decide) (by omega) (fun c_5 => ?_) (fun c_5 => ?_)
  · rcases hx with ⟨h1, -⟩ | ⟨-, hN⟩
    · omega
    refine x_iconst C dX6_jobResult_37 ?_
    exact x_iret C dX6_jobResult_38 ⟨_, rfl, rfl, by rw [bResult, if_neg (fun q => hN (jd.mpr q.1))]⟩
  · rcases hx with ⟨-, hN⟩ | ⟨h0, -⟩
    rotate_left
    · exact absurd h0 c_5
    obtain ⟨n, rfl, hn, h6⟩ := id hN
    have hf := hF.2.2 n (by omega)
    refine x_aload_n C dX6_jobResult_8 rfl rfl ?_
    refine x_get C (Cn := RX6) (T := TX6) (N := 33) (ci := 6) 12 dX6_jobResult_9 m_w_6 m_f_RX6_35 rfl (by decide) rfl rfl ?_
    refine x_iload_n C dX6_jobResult_12 rfl rfl ?_
    refine x_iald C dX6_jobResult_13 rfl (by omega) (by omega) ?_
    refine x_iconst C dX6_jobResult_14 ?_
    rw [Int.toNat_natCast]
    refine x_icmp_eq (tgt := 28) C dX6_jobResult_15 (by decide) (by omega) (by omega) (fun c_15 => ?_) (fun c_15 => ?_)
    · refine x_aload_n C dX6_jobResult_28 rfl rfl ?_
      refine x_get C (Cn := RX6) (T := TX6) (N := 33) (ci := 6) 18 dX6_jobResult_29 m_w_6 m_f_RX6_54 rfl (by decide) rfl rfl ?_
      refine x_iload_n C dX6_jobResult_32 rfl rfl ?_
      refine x_iald C dX6_jobResult_33 rfl (by omega) (by omega) ?_
      refine x_goto (tgt := 38) C dX6_jobResult_34 (by decide) ?_
      exact x_iret C dX6_jobResult_38 ⟨_, rfl, rfl, by rw [bResult, if_pos ⟨jd.mp hN, by rw [Int.toNat_natCast]; omega⟩]⟩
    · refine x_aload_n C dX6_jobResult_18 rfl rfl ?_
      refine x_get C (Cn := RX6) (T := TX6) (N := 33) (ci := 6) 12 dX6_jobResult_19 m_w_6 m_f_RX6_35 rfl (by decide) rfl rfl ?_
      refine x_iload_n C dX6_jobResult_22 rfl rfl ?_
      refine x_iald C dX6_jobResult_23 rfl (by omega) (by omega) ?_
      refine x_iconst C dX6_jobResult_24 ?_
      rw [Int.toNat_natCast]
      refine x_icmp_ne (tgt := 37) C dX6_jobResult_25 (by decide) (by omega) (by omega) (fun c_25 => ?_) (fun c_25 => ?_)
      · refine x_iconst C dX6_jobResult_37 ?_
        exact x_iret C dX6_jobResult_38 ⟨_, rfl, rfl, by rw [bResult, if_neg (fun q => by have := q.2; rw [Int.toNat_natCast] at this; omega)]⟩
      · refine x_aload_n C dX6_jobResult_28 rfl rfl ?_
        refine x_get C (Cn := RX6) (T := TX6) (N := 33) (ci := 6) 18 dX6_jobResult_29 m_w_6 m_f_RX6_54 rfl (by decide) rfl rfl ?_
        refine x_iload_n C dX6_jobResult_32 rfl rfl ?_
        refine x_iald C dX6_jobResult_33 rfl (by omega) (by omega) ?_
        refine x_goto (tgt := 38) C dX6_jobResult_34 (by decide) ?_
        exact x_iret C dX6_jobResult_38 ⟨_, rfl, rfl, by rw [bResult, if_pos ⟨jd.mp hN, by rw [Int.toNat_natCast]; omega⟩]⟩
set_option maxHeartbeats 4000000 in
set_option maxRecDepth 100000 in
theorem r_workLeft {l : Launch} {D : va_G} {ad : Nat → Nat} {g : Nat × Nat × Nat × Nat} (hg : 3 ≤ g.1 ∧ g.1 ≤ 11 ∧ 8 ≤ g.2.1 ∧ g.2.1 ≤ 2048 ∧ 1 ≤ g.2.2.1 ∧ g.2.2.1 ≤ 24 ∧ 1 ≤ g.2.2.2 ∧ g.2.2.2 ≤ 12) (ρ : St) (hs : RS g ρ) (hF : RF ρ) (j : Int) (rg_j : -2147483648 ≤ j ∧ j < 2147483648) : Rt l D ad yX6_workLeft (Cond.code yX6_workLeft cX6_workLeft 2 (some .long) :: tb) 1 40 [.ref (ad 0), vi j] ρ (fun v ρ' => ρ = ρ' ∧ v = some (vl (bWork g ρ j))) := by
  refine ct_of (by decide) rfl (Nat.le_of_ble_eq_true rfl) ?_
  intro p e s m below meth c C
  change X _ _ _ _ _ _ _ _ _ _ _ _ _ _ _ _ [(0, .ref (ad 0)), (1, vi j)] _
  refine x_aload_n C dX6_workLeft_0 rfl rfl ?_
  refine x_iload_n C dX6_workLeft_1 rfl rfl ?_
  refine x_callV C (ci := 6) (nn := 1) (r_isJob hg ρ hs hF j rg_j) g_RX6_174 rfl (by decide +kernel) ⟨by first | decide | omega, by first | decide | omega⟩ rfl rfl rfl rfl rfl (Nat.le_of_ble_eq_true rfl) dX6_workLeft_2 (fun v h1 hp => ?_)
  obtain ⟨ρ1, rfl, rfl, x, rfl, hx⟩ := hp
  have hxr : 0 ≤ x ∧ x ≤ 1 := by rcases hx with ⟨h, -⟩ | ⟨h, -⟩ <;> omega
  refine x_if_eq (tgt := 31) C dX6_workLeft_5 (by decide) (by omega) (fun c_5 => ?_) (fun c_5 => ?_)
  · rcases hx with ⟨h1, -⟩ | ⟨-, hN⟩
    · omega
    refine x_ldc2 C (z := -1) dX6_workLeft_31 (C.2.2.2.2.1 _ m_k_RX6_177) (by decide) ?_
    exact x_lret C dX6_workLeft_34 ⟨_, rfl, rfl, by first | rw [bWork, if_neg (mt jd.mpr hN)] | rw [bWork, if_pos (jd.mp hN), if_pos (by rw [Int.toNat_natCast]; exact c_15)] | rw [bWork, if_pos (jd.mp hN), if_neg (by rw [Int.toNat_natCast]; exact c_15)]⟩
  · rcases hx with ⟨-, hN⟩ | ⟨h0, -⟩
    rotate_left
    · exact absurd h0 c_5
    obtain ⟨n, rfl, hn, h6⟩ := id hN
    have hf := hF.2.2 n (by omega)
    refine x_aload_n C dX6_workLeft_8 rfl rfl ?_
    refine x_get C (Cn := RX6) (T := TX6) (N := 33) (ci := 6) 12 dX6_workLeft_9 m_w_6 m_f_RX6_35 rfl (by decide) rfl rfl ?_
    refine x_iload_n C dX6_workLeft_12 rfl rfl ?_
    refine x_iald C dX6_workLeft_13 rfl (by omega) (by omega) ?_
    refine x_iconst C dX6_workLeft_14 ?_
    rw [Int.toNat_natCast]
    refine x_icmp_le (tgt := 22) C dX6_workLeft_15 (by decide) (by omega) (by omega) (fun c_15 => ?_) (fun c_15 => ?_)
    · refine x_aload_n C dX6_workLeft_22 rfl rfl ?_
      refine x_get C (Cn := RX6) (T := TX6) (N := 33) (ci := 6) 17 dX6_workLeft_23 m_w_6 m_f_RX6_50 rfl (by decide) rfl rfl ?_
      refine x_iload_n C dX6_workLeft_26 rfl rfl ?_
      refine x_lald C dX6_workLeft_27 rfl (by omega) (by omega) ?_
      refine x_goto (tgt := 34) C dX6_workLeft_28 (by decide) ?_
      exact x_lret C dX6_workLeft_34 ⟨_, rfl, rfl, by first | rw [bWork, if_neg (mt jd.mpr hN)] | rw [bWork, if_pos (jd.mp hN), if_pos (by rw [Int.toNat_natCast]; exact c_15)] | rw [bWork, if_pos (jd.mp hN), if_neg (by rw [Int.toNat_natCast]; exact c_15)]⟩
    · refine x_lconst0 C dX6_workLeft_18 ?_
      refine x_goto (tgt := 34) C dX6_workLeft_19 (by decide) ?_
      exact x_lret C dX6_workLeft_34 ⟨_, rfl, rfl, by first | rw [bWork, if_neg (mt jd.mpr hN)] | rw [bWork, if_pos (jd.mp hN), if_pos (by rw [Int.toNat_natCast]; exact c_15)] | rw [bWork, if_pos (jd.mp hN), if_neg (by rw [Int.toNat_natCast]; exact c_15)]⟩
set_option maxHeartbeats 4000000 in
set_option maxRecDepth 100000 in
theorem r_number {l : Launch} {D : va_G} {ad : Nat → Nat} {g : Nat × Nat × Nat × Nat} (hg : 3 ≤ g.1 ∧ g.1 ≤ 11 ∧ 8 ≤ g.2.1 ∧ g.2.1 ≤ 2048 ∧ 1 ≤ g.2.2.1 ∧ g.2.2.1 ≤ 24 ∧ 1 ≤ g.2.2.2 ∧ g.2.2.2 ≤ 12) (ρ : St) (hs : RS g ρ) (hF : RF ρ) (h w : Int) (rg_h : -2147483648 ≤ h ∧ h < 2147483648) (rg_w : -2147483648 ≤ w ∧ w < 2147483648) : Rt l D ad yX6_number (Cond.code yX6_number cX6_number 3 (some .int) :: tb) 1 40 [.ref (ad 0), vi h, vi w] ρ (fun v ρ' => ρ = ρ' ∧ v = some (vi (bNumber g ρ h w))) := by
  refine ct_of (by decide) rfl (Nat.le_of_ble_eq_true rfl) ?_
  intro p e s m below meth c C
  change X _ _ _ _ _ _ _ _ _ _ _ _ _ _ _ _ [(0, .ref (ad 0)), (1, vi h), (2, vi w)] _
  refine x_aload_n C dX6_number_0 rfl rfl ?_
  refine x_iload_n C dX6_number_1 rfl rfl ?_
  refine x_callV C (ci := 6) (nn := 1) (r_isThere hg ρ hs hF h rg_h) g_RX6_131 rfl (by decide +kernel) ⟨by first | decide | omega, by first | decide | omega⟩ rfl rfl rfl rfl rfl (Nat.le_of_ble_eq_true rfl) dX6_number_2 (fun v h1 hp => ?_)
  obtain ⟨ρ1, rfl, rfl, x, rfl, hx⟩ := hp
  have hxr : 0 ≤ x ∧ x ≤ 1 := by rcases hx with ⟨h, -⟩ | ⟨h, -⟩ <;> omega
  refine x_if_eq (tgt := 17) C dX6_number_5 (by decide) (by omega) (fun c_5 => ?_) (fun c_5 => ?_)
  · rcases hx with ⟨h1, -⟩ | ⟨-, hN⟩
    · omega
    refine x_iconst C dX6_number_17 ?_
    exact x_iret C dX6_number_18 ⟨_, rfl, rfl, by rw [bNumber, if_neg (mt nd.mpr hN)]⟩
  · rcases hx with ⟨-, hN⟩ | ⟨h0, -⟩
    rotate_left
    · exact absurd h0 c_5
    obtain ⟨n, rfl, hn, h6⟩ := id hN
    refine x_iload_n C dX6_number_8 rfl rfl ?_
    refine x_if_lt (tgt := 17) C dX6_number_9 (by decide) (by omega) (fun c_9 => ?_) (fun c_9 => ?_)
    · refine x_iconst C dX6_number_17 ?_
      exact x_iret C dX6_number_18 ⟨_, rfl, rfl, by rw [bNumber, if_pos (nd.mp hN), if_neg (by omega), if_neg (by omega), if_neg (by omega)]⟩
    · refine x_iload_n C dX6_number_12 rfl rfl ?_
      refine x_iconst C dX6_number_13 ?_
      refine x_icmp_le (tgt := 19) C dX6_number_14 (by decide) (by omega) (by omega) (fun c_14 => ?_) (fun c_14 => ?_)
      · refine x_iload_n C dX6_number_19 rfl rfl ?_
        refine x_if_ne (tgt := 32) C dX6_number_20 (by decide) (by omega) (fun c_20 => ?_) (fun c_20 => ?_)
        · refine x_iload_n C dX6_number_32 rfl rfl ?_
          refine x_iconst C dX6_number_33 ?_
          refine x_icmp_ne (tgt := 46) C dX6_number_34 (by decide) (by omega) (by omega) (fun c_34 => ?_) (fun c_34 => ?_)
          · refine x_aload_n C dX6_number_46 rfl rfl ?_
            refine x_get C (Cn := RX6) (T := TX6) (N := 33) (ci := 6) 10 dX6_number_47 m_w_6 m_f_RX6_29 rfl (by decide) rfl rfl ?_
            refine x_iload_n C dX6_number_50 rfl rfl ?_
            refine x_iald C dX6_number_51 rfl (by omega) (by omega) ?_
            exact x_iret C dX6_number_52 ⟨_, rfl, rfl, by first | rw [bNumber, if_pos (nd.mp hN), if_pos (by omega)] | rw [bNumber, if_pos (nd.mp hN), if_neg (by omega), if_pos (by omega)] | rw [bNumber, if_pos (nd.mp hN), if_neg (by omega), if_neg (by omega), if_pos (by omega)]⟩
          · refine x_aload_n C dX6_number_37 rfl rfl ?_
            refine x_get C (Cn := RX6) (T := TX6) (N := 33) (ci := 6) 9 dX6_number_38 m_w_6 m_f_RX6_26 rfl (by decide) rfl rfl ?_
            refine x_iload_n C dX6_number_41 rfl rfl ?_
            refine x_iald C dX6_number_42 rfl (by omega) (by omega) ?_
            refine x_goto (tgt := 52) C dX6_number_43 (by decide) ?_
            exact x_iret C dX6_number_52 ⟨_, rfl, rfl, by first | rw [bNumber, if_pos (nd.mp hN), if_pos (by omega)] | rw [bNumber, if_pos (nd.mp hN), if_neg (by omega), if_pos (by omega)] | rw [bNumber, if_pos (nd.mp hN), if_neg (by omega), if_neg (by omega), if_pos (by omega)]⟩
        · refine x_aload_n C dX6_number_23 rfl rfl ?_
          refine x_get C (Cn := RX6) (T := TX6) (N := 33) (ci := 6) 8 dX6_number_24 m_w_6 m_f_RX6_23 rfl (by decide) rfl rfl ?_
          refine x_iload_n C dX6_number_27 rfl rfl ?_
          refine x_iald C dX6_number_28 rfl (by omega) (by omega) ?_
          refine x_goto (tgt := 52) C dX6_number_29 (by decide) ?_
          exact x_iret C dX6_number_52 ⟨_, rfl, rfl, by first | rw [bNumber, if_pos (nd.mp hN), if_pos (by omega)] | rw [bNumber, if_pos (nd.mp hN), if_neg (by omega), if_pos (by omega)] | rw [bNumber, if_pos (nd.mp hN), if_neg (by omega), if_neg (by omega), if_pos (by omega)]⟩
      · refine x_iconst C dX6_number_17 ?_
        exact x_iret C dX6_number_18 ⟨_, rfl, rfl, by rw [bNumber, if_pos (nd.mp hN), if_neg (by omega), if_neg (by omega), if_neg (by omega)]⟩
set_option maxHeartbeats 4000000 in
set_option maxRecDepth 100000 in
theorem r_getLimb {l : Launch} {D : va_G} {ad : Nat → Nat} {g : Nat × Nat × Nat × Nat} (hg : 3 ≤ g.1 ∧ g.1 ≤ 11 ∧ 8 ≤ g.2.1 ∧ g.2.1 ≤ 2048 ∧ 1 ≤ g.2.2.1 ∧ g.2.2.1 ≤ 24 ∧ 1 ≤ g.2.2.2 ∧ g.2.2.2 ≤ 12) (ρ : St) (hs : RS g ρ) (hF : RF ρ) (hU : RN_ ρ) (h i : Int) (rg_h : -2147483648 ≤ h ∧ h < 2147483648) (rg_i : -2147483648 ≤ i ∧ i < 2147483648) : Rt l D ad yX6_getLimb (Cond.code yX6_getLimb cX6_getLimb 3 (some .int) :: tb) 1 40 [.ref (ad 0), vi h, vi i] ρ (fun v ρ' => ρ = ρ' ∧ v = some (vi (bLimb g ρ h i))) := by
  refine ct_of (by decide) rfl (Nat.le_of_ble_eq_true rfl) ?_
  intro p e s m below meth c C
  change X _ _ _ _ _ _ _ _ _ _ _ _ _ _ _ _ [(0, .ref (ad 0)), (1, vi h), (2, vi i)] _
  refine x_aload_n C dX6_getLimb_0 rfl rfl ?_
  refine x_iload_n C dX6_getLimb_1 rfl rfl ?_
  refine x_callV C (ci := 6) (nn := 1) (r_isThere hg ρ hs hF h rg_h) g_RX6_131 rfl (by decide +kernel) ⟨by first | decide | omega, by first | decide | omega⟩ rfl rfl rfl rfl rfl (Nat.le_of_ble_eq_true rfl) dX6_getLimb_2 (fun v h1 hp => ?_)
  obtain ⟨ρ1, rfl, rfl, x, rfl, hx⟩ := hp
  have hxr : 0 ≤ x ∧ x ≤ 1 := by rcases hx with ⟨h, -⟩ | ⟨h, -⟩ <;> omega
  refine x_if_eq (tgt := 31) C dX6_getLimb_5 (by decide) (by omega) (fun c_5 => ?_) (fun c_5 => ?_)
  · rcases hx with ⟨h1, -⟩ | ⟨-, hN⟩
    · omega
    refine x_iconst C dX6_getLimb_31 ?_
    exact x_iret C dX6_getLimb_32 ⟨_, rfl, rfl, by rw [bLimb, if_neg (fun q => hN (nd.mpr q.1))]⟩
  · rcases hx with ⟨-, hN⟩ | ⟨h0, -⟩
    rotate_left
    · exact absurd h0 c_5
    obtain ⟨n, rfl, hn, h6⟩ := id hN
    have hf := hF.2.1 n (by omega)
    obtain ⟨A, z, hA, hz, hAz, -⟩ := hU n (by omega) h6
    refine x_aload_n C dX6_getLimb_8 rfl rfl ?_
    refine x_get C (Cn := RX6) (T := TX6) (N := 33) (ci := 6) 11 dX6_getLimb_9 m_w_6 m_f_RX6_32 rfl (by decide) rfl rfl ?_
    refine x_iload_n C dX6_getLimb_12 rfl rfl ?_
    refine x_zald C dX6_getLimb_13 rfl (by omega) (by omega) ?_
    rw [Int.toNat_natCast]
    refine x_if_ne (tgt := 31) C dX6_getLimb_14 (by decide) (by omega) (fun c_14 => ?_) (fun c_14 => ?_)
    · refine x_iconst C dX6_getLimb_31 ?_
      exact x_iret C dX6_getLimb_32 ⟨_, rfl, rfl, by rw [bLimb, if_neg (fun q => by have := q.2; rw [Int.toNat_natCast, hz] at this; omega)]⟩
    · refine x_iload_n C dX6_getLimb_17 rfl rfl ?_
      refine x_if_lt (tgt := 31) C dX6_getLimb_18 (by decide) (by omega) (fun c_18 => ?_) (fun c_18 => ?_)
      · refine x_iconst C dX6_getLimb_31 ?_
        exact x_iret C dX6_getLimb_32 ⟨_, rfl, rfl, by rw [bLimb, if_neg (fun q => by have := q.2; rw [Int.toNat_natCast, hz] at this; omega)]⟩
      · refine x_iload_n C dX6_getLimb_21 rfl rfl ?_
        refine x_aload_n C dX6_getLimb_22 rfl rfl ?_
        refine x_get C (Cn := RX6) (T := TX6) (N := 33) (ci := 6) 7 dX6_getLimb_23 m_w_6 m_f_RX6_20 rfl (by decide) rfl rfl ?_
        refine x_iload_n C dX6_getLimb_26 rfl rfl ?_
        refine x_iald C dX6_getLimb_27 rfl (by omega) (by omega) ?_
        rw [Int.toNat_natCast, hz]
        refine x_icmp_lt (tgt := 33) C dX6_getLimb_28 (by decide) (by omega) (by omega) (fun c_28 => ?_) (fun c_28 => ?_)
        · refine x_aload_n C dX6_getLimb_33 rfl rfl ?_
          refine x_get C (Cn := RX6) (T := TX6) (N := 33) (ci := 6) 4 dX6_getLimb_34 m_w_6 m_f_RX6_7 rfl (by decide) rfl rfl ?_
          refine x_aload_n C dX6_getLimb_37 rfl rfl ?_
          refine x_get C (Cn := RX6) (T := TX6) (N := 33) (ci := 6) 8 dX6_getLimb_38 m_w_6 m_f_RX6_23 rfl (by decide) rfl rfl ?_
          refine x_iload_n C dX6_getLimb_41 rfl rfl ?_
          refine x_iald C dX6_getLimb_42 rfl (by omega) (by omega) ?_
          rw [Int.toNat_natCast, hA]
          refine x_iload_n C dX6_getLimb_43 rfl rfl ?_
          refine x_iadd C dX6_getLimb_44 ?_
          refine x_iald C dX6_getLimb_45 rfl (by omega) (by omega) ?_
          exact x_iret C dX6_getLimb_46 ⟨_, rfl, rfl, by rw [bLimb, if_pos ⟨nd.mp hN, by rw [Int.toNat_natCast, hz]; omega⟩, Int.toNat_natCast, hA]⟩
        · refine x_iconst C dX6_getLimb_31 ?_
          exact x_iret C dX6_getLimb_32 ⟨_, rfl, rfl, by rw [bLimb, if_neg (fun q => by have := q.2; rw [Int.toNat_natCast, hz] at this; omega)]⟩
set_option maxHeartbeats 4000000 in
set_option maxRecDepth 100000 in
theorem rp_freeCells {p : Program} {l : Launch} {e : Env} {R : Room} {s : State} {m : MethodId} {args : Array Value} {below : List Frame} {meth : Method} {c : Code} {D : va_G} {ad : Nat → Nat} {Q : State → Prop} (C : Fx p s m args meth c D ad cX6_freeCells 3 (some .int) yX6_freeCells.cls tb) {g : Nat × Nat × Nat × Nat} (hg : 3 ≤ g.1 ∧ g.1 ≤ 11 ∧ 8 ≤ g.2.1 ∧ g.2.1 ≤ 2048 ∧ 1 ≤ g.2.2.1 ∧ g.2.2.1 ≤ 24 ∧ 1 ≤ g.2.2.2 ∧ g.2.2.2 ≤ 12) (hnp : g.2.1 = 2 ^ g.1) (hR : 1 ≤ R.frames ∧ 40 ≤ R.locals) (ρ : St) (hs : RS g ρ) (hM : MI g.1 (ρ 5)) (K : ∀ i : Int, X p l e R s m args below meth c D ad 3 Q (rc D ad ρ) 42 [(2, vi i), (1, vi (sumA (ρ 5) g.2.1)), (0, .ref (ad 0))] []) (n i : Nat) (hn : g.2.1 - i < n) (hi : i ≤ g.2.1) : X p l e R s m args below meth c D ad 3 Q (rc D ad ρ) 4 [(2, vi (i : Int)), (1, vi (sumA (ρ 5) i)), (0, .ref (ad 0))] [] := by
  induction n generalizing i with
  | zero => omega
  | succ n ih =>
  refine x_iload_n C dX6_freeCells_4 rfl rfl ?_
  refine x_aload_n C dX6_freeCells_5 rfl rfl ?_
  refine x_callV C (ci := 6) (nn := 0) (r_pool hg hnp ρ hs) g_RX6_114 rfl (by decide +kernel) ⟨by first | decide | omega, by first | decide | omega⟩ rfl rfl rfl rfl rfl (Nat.le_of_ble_eq_true rfl) dX6_freeCells_6 (fun v h1 hp => ?_)
  obtain ⟨ρ1, rfl, rfl, rfl⟩ := hp
  refine x_icmp_ge (tgt := 42) C dX6_freeCells_9 (by decide) (by omega) (by omega) (fun c_9 => ?_) (fun c_9 => ?_)
  · obtain rfl : i = g.2.1 := by omega
    exact K _
  · have hf := hM.1 i (by omega)
    refine x_iload_n C dX6_freeCells_12 rfl rfl ?_
    refine x_aload_n C dX6_freeCells_13 rfl rfl ?_
    refine x_get C (Cn := RX6) (T := TX6) (N := 33) (ci := 6) 5 dX6_freeCells_14 m_w_6 m_f_RX6_13 rfl (by decide) rfl rfl ?_
    refine x_iload_n C dX6_freeCells_17 rfl rfl ?_
    refine x_iald C dX6_freeCells_18 rfl (by omega) (by omega) ?_
    rw [Int.toNat_natCast]
    refine x_if_lt (tgt := 33) C dX6_freeCells_19 (by decide) (by omega) (fun c_19 => ?_) (fun c_19 => ?_)
    · have hone : (if 0 ≤ ρ 5 i then (2 : Int) ^ (ρ 5 i).toNat else 0) = 0 := if_neg (by omega)
      refine x_iconst C dX6_freeCells_33 ?_
      refine x_iadd C dX6_freeCells_34 ?_
      refine x_istore_n C (lv' := [(1, _), (2, _), (0, _)]) dX6_freeCells_35 rfl (by decide) rfl ?_
      refine x_iinc C (lv' := [(2, _), (1, _), (0, _)]) dX6_freeCells_36 rfl (by decide) rfl ?_
      refine x_goto (tgt := 4) C dX6_freeCells_39 (by decide) ?_
      rw [show (i : Int) + 1 = ((i + 1 : Nat) : Int) by omega]
      refine X.sub [0, 1, 2] (lv' := [(2, vi ((i + 1 : Nat) : Int)), (1, vi (sumA (ρ 5) (i + 1))), (0, .ref (ad 0))]) (by rw [sumA, hone]; rfl) ?_
      exact ih (i + 1) (by omega) (by omega)
    · refine x_iconst C dX6_freeCells_22 ?_
      refine x_aload_n C dX6_freeCells_23 rfl rfl ?_
      refine x_get C (Cn := RX6) (T := TX6) (N := 33) (ci := 6) 5 dX6_freeCells_24 m_w_6 m_f_RX6_13 rfl (by decide) rfl rfl ?_
      refine x_iload_n C dX6_freeCells_27 rfl rfl ?_
      refine x_iald C dX6_freeCells_28 rfl (by omega) (by omega) ?_
      rw [Int.toNat_natCast]
      refine x_ishl C dX6_freeCells_29 (by omega) ?_
      rw [Int.one_mul]
      have hone : (if 0 ≤ ρ 5 i then (2 : Int) ^ (ρ 5 i).toNat else 0) = 2 ^ (ρ 5 i).toNat := if_pos (by omega)
      refine x_goto (tgt := 34) C dX6_freeCells_30 (by decide) ?_
      refine x_iadd C dX6_freeCells_34 ?_
      refine x_istore_n C (lv' := [(1, _), (2, _), (0, _)]) dX6_freeCells_35 rfl (by decide) rfl ?_
      refine x_iinc C (lv' := [(2, _), (1, _), (0, _)]) dX6_freeCells_36 rfl (by decide) rfl ?_
      refine x_goto (tgt := 4) C dX6_freeCells_39 (by decide) ?_
      rw [show (i : Int) + 1 = ((i + 1 : Nat) : Int) by omega]
      refine X.sub [0, 1, 2] (lv' := [(2, vi ((i + 1 : Nat) : Int)), (1, vi (sumA (ρ 5) (i + 1))), (0, .ref (ad 0))]) (by rw [sumA, hone]; rfl) ?_
      exact ih (i + 1) (by omega) (by omega)
set_option maxHeartbeats 4000000 in
set_option maxRecDepth 100000 in
theorem r_freeCells {l : Launch} {D : va_G} {ad : Nat → Nat} {g : Nat × Nat × Nat × Nat} (hg : 3 ≤ g.1 ∧ g.1 ≤ 11 ∧ 8 ≤ g.2.1 ∧ g.2.1 ≤ 2048 ∧ 1 ≤ g.2.2.1 ∧ g.2.2.1 ≤ 24 ∧ 1 ≤ g.2.2.2 ∧ g.2.2.2 ≤ 12) (hnp : g.2.1 = 2 ^ g.1) (ρ : St) (hs : RS g ρ) (hM : MI g.1 (ρ 5)) : Rt l D ad yX6_freeCells (Cond.code yX6_freeCells cX6_freeCells 3 (some .int) :: tb) 1 40 [.ref (ad 0)] ρ (fun v ρ' => ρ = ρ' ∧ v = some (vi (sumA (ρ 5) g.2.1))) := by
  refine ct_of (by decide) rfl (Nat.le_of_ble_eq_true rfl) ?_
  intro p e s m below meth c C
  change X _ _ _ _ _ _ _ _ _ _ _ _ _ _ _ _ [(0, .ref (ad 0))] _
  refine x_iconst C dX6_freeCells_0 ?_
  refine x_istore_n C (lv' := [(1, _), (0, _)]) dX6_freeCells_1 rfl (by decide) rfl ?_
  refine x_iconst C dX6_freeCells_2 ?_
  refine x_istore_n C (lv' := [(2, _), (1, _), (0, _)]) dX6_freeCells_3 rfl (by decide) rfl ?_
  refine rp_freeCells C hg hnp ⟨by decide, by decide⟩ ρ hs hM ?_ (g.2.1 + 1) 0 (by omega) (by omega)
  intro i
  refine x_iload_n C dX6_freeCells_42 rfl rfl ?_
  exact x_iret C dX6_freeCells_43 ⟨_, rfl, rfl, rfl⟩
def fbR (g : Nat × Nat × Nat × Nat) (f : Nat → Int) (o k r : Int) : Prop := (¬ (0 ≤ o ∧ o ≤ g.1) ∧ r = -1) ∨ ((0 ≤ o ∧ o ≤ g.1) ∧ ((k = -1 ∧ r = cnt f o g.2.1) ∨ (k ≠ -1 ∧ adP f g.2.1 o k r)))
set_option maxHeartbeats 4000000 in
set_option maxRecDepth 100000 in
theorem rp_freeBlock {p : Program} {l : Launch} {e : Env} {R : Room} {s : State} {m : MethodId} {args : Array Value} {below : List Frame} {meth : Method} {c : Code} {D : va_G} {ad : Nat → Nat} {Q : State → Prop} (C : Fx p s m args meth c D ad cX6_freeBlock 5 (some .int) yX6_freeBlock.cls tb) {g : Nat × Nat × Nat × Nat} (hg : 3 ≤ g.1 ∧ g.1 ≤ 11 ∧ 8 ≤ g.2.1 ∧ g.2.1 ≤ 2048 ∧ 1 ≤ g.2.2.1 ∧ g.2.2.1 ≤ 24 ∧ 1 ≤ g.2.2.2 ∧ g.2.2.2 ≤ 12) (hnp : g.2.1 = 2 ^ g.1) (hR : 1 ≤ R.frames ∧ 40 ≤ R.locals) (ρ : St) (hs : RS g ρ) (hM : MI g.1 (ρ 5)) (o k : Int) (ho : 0 ≤ o ∧ o ≤ g.1) (hk : -1 ≤ k ∧ k < 2147483648) (K : ∀ (r : Int) pc lv, (pc = 51 ∨ pc = 71) → fbR g (ρ 5) o k r → X p l e R s m args below meth c D ad 5 Q (rc D ad ρ) pc lv [vi r]) (n i : Nat) (hn : g.2.1 - i < n) (hi : i ≤ g.2.1) (hc : k = -1 ∨ cnt (ρ 5) o i ≤ k) : X p l e R s m args below meth c D ad 5 Q (rc D ad ρ) 24 [(4, vi (i : Int)), (3, vi (cnt (ρ 5) o i)), (0, .ref (ad 0)), (1, vi o), (2, vi k)] [] := by
  induction n generalizing i with
  | zero => omega
  | succ n ih =>
  refine x_iload C dX6_freeBlock_24 rfl ?_
  have hle := cnt_le (ρ 5) o i
  have hge := cnt_ge (ρ 5) o i
  refine x_aload_n C dX6_freeBlock_26 rfl rfl ?_
  refine x_callV C (ci := 6) (nn := 0) (r_pool hg hnp ρ hs) g_RX6_114 rfl (by decide +kernel) ⟨by first | decide | omega, by first | decide | omega⟩ rfl rfl rfl rfl rfl (Nat.le_of_ble_eq_true rfl) dX6_freeBlock_27 (fun v h1 hp => ?_)
  obtain ⟨ρ1, rfl, rfl, rfl⟩ := hp
  refine x_icmp_ge (tgt := 61) C dX6_freeBlock_30 (by decide) (by omega) (by omega) (fun c_30 => ?_) (fun c_30 => ?_)
  · obtain rfl : i = g.2.1 := by omega
    refine x_iload_n C dX6_freeBlock_61 rfl rfl ?_
    refine x_iconst C dX6_freeBlock_62 ?_
    refine x_icmp_ne (tgt := 70) C dX6_freeBlock_63 (by decide) (by omega) (by omega) (fun c_63 => ?_) (fun c_63 => ?_)
    · refine x_iconst C dX6_freeBlock_70 ?_
      first | exact K _ _ _ (Or.inr rfl) (Or.inr ⟨ho, Or.inl ⟨by omega, rfl⟩⟩) | exact K _ _ _ (Or.inr rfl) (Or.inr ⟨ho, Or.inr ⟨by omega, Or.inl ⟨rfl, by omega⟩⟩⟩)
    · refine x_iload_n C dX6_freeBlock_66 rfl rfl ?_
      refine x_goto (tgt := 71) C dX6_freeBlock_67 (by decide) ?_
      first | exact K _ _ _ (Or.inr rfl) (Or.inr ⟨ho, Or.inl ⟨by omega, rfl⟩⟩) | exact K _ _ _ (Or.inr rfl) (Or.inr ⟨ho, Or.inr ⟨by omega, Or.inl ⟨rfl, by omega⟩⟩⟩)
  · have hf := hM.1 i (by omega)
    refine x_aload_n C dX6_freeBlock_33 rfl rfl ?_
    refine x_get C (Cn := RX6) (T := TX6) (N := 33) (ci := 6) 5 dX6_freeBlock_34 m_w_6 m_f_RX6_13 rfl (by decide) rfl rfl ?_
    refine x_iload C dX6_freeBlock_37 rfl ?_
    refine x_iald C dX6_freeBlock_39 rfl (by omega) (by omega) ?_
    refine x_iload_n C dX6_freeBlock_40 rfl rfl ?_
    rw [Int.toNat_natCast]
    refine x_icmp_ne (tgt := 55) C dX6_freeBlock_41 (by decide) (by omega) (by omega) (fun c_41 => ?_) (fun c_41 => ?_)
    · refine x_iinc C (lv' := [(4, _), (3, _), (0, _), (1, _), (2, _)]) dX6_freeBlock_55 rfl (by decide) rfl ?_
      refine x_goto (tgt := 24) C dX6_freeBlock_58 (by decide) ?_
      rw [show (i : Int) + 1 = ((i + 1 : Nat) : Int) by omega]
      first | rw [show cnt (ρ 5) o i + 1 = cnt (ρ 5) o (i + 1) by rw [cnt_s, if_pos c_41]] | rw [show cnt (ρ 5) o i = cnt (ρ 5) o (i + 1) by rw [cnt_s, if_neg c_41]; omega]
      refine ih (i + 1) (by omega) (by omega) ?_
      rw [cnt_s]
      first | rw [if_pos c_41]; omega | rw [if_neg c_41]; omega
    · refine x_iload_n C dX6_freeBlock_44 rfl rfl ?_
      refine x_iload_n C dX6_freeBlock_45 rfl rfl ?_
      refine x_icmp_ne (tgt := 52) C dX6_freeBlock_46 (by decide) (by omega) (by omega) (fun c_46 => ?_) (fun c_46 => ?_)
      · refine x_iinc C (lv' := [(3, _), (4, _), (0, _), (1, _), (2, _)]) dX6_freeBlock_52 rfl (by decide) rfl ?_
        refine x_iinc C (lv' := [(4, _), (3, _), (0, _), (1, _), (2, _)]) dX6_freeBlock_55 rfl (by decide) rfl ?_
        refine x_goto (tgt := 24) C dX6_freeBlock_58 (by decide) ?_
        rw [show (i : Int) + 1 = ((i + 1 : Nat) : Int) by omega]
        first | rw [show cnt (ρ 5) o i + 1 = cnt (ρ 5) o (i + 1) by rw [cnt_s, if_pos c_41]] | rw [show cnt (ρ 5) o i = cnt (ρ 5) o (i + 1) by rw [cnt_s, if_neg c_41]; omega]
        refine ih (i + 1) (by omega) (by omega) ?_
        rw [cnt_s]
        first | rw [if_pos c_41]; omega | rw [if_neg c_41]; omega
      · refine x_iload C dX6_freeBlock_49 rfl ?_
        exact K _ _ _ (Or.inl rfl) (Or.inr ⟨ho, Or.inr ⟨by omega, Or.inr ⟨i, rfl, by omega, c_41, c_46⟩⟩⟩)
set_option maxHeartbeats 4000000 in
set_option maxRecDepth 100000 in
theorem r_freeBlock {l : Launch} {D : va_G} {ad : Nat → Nat} {g : Nat × Nat × Nat × Nat} (hg : 3 ≤ g.1 ∧ g.1 ≤ 11 ∧ 8 ≤ g.2.1 ∧ g.2.1 ≤ 2048 ∧ 1 ≤ g.2.2.1 ∧ g.2.2.1 ≤ 24 ∧ 1 ≤ g.2.2.2 ∧ g.2.2.2 ≤ 12) (hnp : g.2.1 = 2 ^ g.1) (ρ : St) (hs : RS g ρ) (hM : MI g.1 (ρ 5)) (o k : Int) (rg_o : -2147483648 ≤ o ∧ o < 2147483648) (rg_k : -2147483648 ≤ k ∧ k < 2147483648) : Rt l D ad yX6_freeBlock (Cond.code yX6_freeBlock cX6_freeBlock 5 (some .int) :: tb) 1 40 [.ref (ad 0), vi o, vi k] ρ (fun v ρ' => ρ = ρ' ∧ ∃ r : Int, v = some (vi r) ∧ fbR g (ρ 5) o k r) := by
  refine ct_of (by decide) rfl (Nat.le_of_ble_eq_true rfl) ?_
  intro p e s m below meth c C
  change X _ _ _ _ _ _ _ _ _ _ _ _ _ _ _ _ [(0, .ref (ad 0)), (1, vi o), (2, vi k)] _
  refine x_iload_n C dX6_freeBlock_0 rfl rfl ?_
  refine x_if_lt (tgt := 17) C dX6_freeBlock_1 (by decide) (by omega) (fun c_1 => ?_) (fun c_1 => ?_)
  · refine x_iconst C dX6_freeBlock_17 ?_
    exact x_iret C dX6_freeBlock_18 ⟨_, rfl, rfl, -1, rfl, by first | exact Or.inl ⟨by omega, rfl⟩ | exact Or.inr ⟨by omega, Or.inr ⟨by omega, Or.inl ⟨rfl, by omega⟩⟩⟩⟩
  · refine x_iload_n C dX6_freeBlock_4 rfl rfl ?_
    refine x_aload_n C dX6_freeBlock_5 rfl rfl ?_
    refine x_get C (Cn := RX6) (T := TX6) (N := 33) (ci := 6) 0 dX6_freeBlock_6 m_w_6 m_f_RX6_85 rfl (by decide) rfl rfl ?_
    rw [hs.1]
    refine x_icmp_gt (tgt := 17) C dX6_freeBlock_9 (by decide) (by omega) (by omega) (fun c_9 => ?_) (fun c_9 => ?_)
    · refine x_iconst C dX6_freeBlock_17 ?_
      exact x_iret C dX6_freeBlock_18 ⟨_, rfl, rfl, -1, rfl, by first | exact Or.inl ⟨by omega, rfl⟩ | exact Or.inr ⟨by omega, Or.inr ⟨by omega, Or.inl ⟨rfl, by omega⟩⟩⟩⟩
    · refine x_iload_n C dX6_freeBlock_12 rfl rfl ?_
      refine x_iconst C dX6_freeBlock_13 ?_
      refine x_icmp_ge (tgt := 19) C dX6_freeBlock_14 (by decide) (by omega) (by omega) (fun c_14 => ?_) (fun c_14 => ?_)
      · refine x_iconst C dX6_freeBlock_19 ?_
        refine x_istore_n C (lv' := [(3, _), (0, _), (1, _), (2, _)]) dX6_freeBlock_20 rfl (by decide) rfl ?_
        refine x_iconst C dX6_freeBlock_21 ?_
        refine x_istore C (lv' := [(4, _), (3, _), (0, _), (1, _), (2, _)]) dX6_freeBlock_22 (by decide) rfl ?_
        refine rp_freeBlock C hg hnp ⟨by decide, by decide⟩ ρ hs hM o k (by omega) (by omega) ?_ (g.2.1 + 1) 0 (by omega) (by omega) (by show k = -1 ∨ (0 : Int) ≤ k; omega)
        intro r pc lv hpc hr
        rcases hpc with rfl | rfl
        · exact x_iret C dX6_freeBlock_51 ⟨_, rfl, rfl, r, rfl, hr⟩
        · exact x_iret C dX6_freeBlock_71 ⟨_, rfl, rfl, r, rfl, hr⟩
      · refine x_iconst C dX6_freeBlock_17 ?_
        exact x_iret C dX6_freeBlock_18 ⟨_, rfl, rfl, -1, rfl, by first | exact Or.inl ⟨by omega, rfl⟩ | exact Or.inr ⟨by omega, Or.inr ⟨by omega, Or.inl ⟨rfl, by omega⟩⟩⟩⟩
