/-! THE FACE, what reads alone, and a limb. Answers as functions of the state -/
def NUM (g : Nat × Nat × Nat × Nat) (σ : St) : Prop := ∀ h, h < g.2.2.1 → σ (10 + h) 0 = 1 → ∃ A n : Nat, NM g σ h A n ∧ 0 ≤ σ (10 + h) 5 ∧ σ (10 + h) 5 ≤ 1000
abbrev isNm (g : Nat × Nat × Nat × Nat) (σ : St) (h : Int) : Prop := 0 ≤ h ∧ h < g.2.2.1 ∧ σ (10 + h.toNat) 0 = 1
abbrev isJb (g : Nat × Nat × Nat × Nat) (σ : St) (j : Int) : Prop := 0 ≤ j ∧ j < g.2.2.2 ∧ σ (40 + j.toNat) 0 ≠ -1
def aSize (g : Nat × Nat × Nat × Nat) (σ : St) (h : Int) : Int := if isNm g σ h then σ (10 + h.toNat) 2 else -1
def aState (g : Nat × Nat × Nat × Nat) (σ : St) (j : Int) : Int := if isJb g σ j then σ (40 + j.toNat) 0 else -1
def aResult (g : Nat × Nat × Nat × Nat) (σ : St) (j : Int) : Int := if isJb g σ j then σ (40 + j.toNat) 5 else -1
def aWork (g : Nat × Nat × Nat × Nat) (σ : St) (j : Int) : Int := if isJb g σ j then σ (40 + j.toNat) 10 else -1
def aNumber (g : Nat × Nat × Nat × Nat) (σ : St) (h w : Int) : Int := if isNm g σ h then (if w = 0 then σ (10 + h.toNat) 3 else if w = 1 then σ (10 + h.toNat) 4 else if w = 2 then σ (10 + h.toNat) 5 else -1) else -1
def aCount (σ : St) (q : List Int) (w k : Int) : Int := if w = 0 then σ 0 6 else if w = 1 then σ 0 7 else if w = 2 then q.length else if w = 3 then σ 0 8 else if w = 4 then (if 0 ≤ k ∧ k < q.length then q.getD k.toNat 0 else -1) else -1
def aLimb (g : Nat × Nat × Nat × Nat) (σ : St) (h i : Int) : Int := if isNm g σ h ∧ σ (10 + h.toNat) 1 = 0 ∧ 0 ≤ i ∧ i < σ (10 + h.toNat) 2 then σ 2 (σ (10 + h.toNat) 3 + i).toNat else -1
abbrev setOk (g : Nat × Nat × Nat × Nat) (σ : St) (h i w : Int) : Prop := isNm g σ h ∧ ¬ 0 < σ (10 + h.toNat) 5 ∧ (0 ≤ i ∧ i < σ (10 + h.toNat) 2) ∧ 0 ≤ w
theorem isN.pos {g : Nat × Nat × Nat × Nat} {σ : St} {n : Nat} (h1 : n < g.2.2.1) (h2 : σ (10 + n) 0 = 1) : isNm g σ (n : Int) := ⟨by omega, by omega, by rw [Int.toNat_natCast]; exact h2⟩
theorem isN.neg {g : Nat × Nat × Nat × Nat} {σ : St} {h x : Int} (e : isN g σ h x) (hx : x = 0) : ¬ isNm g σ h := fun ⟨a, b, c⟩ => by
  have := e.no hx h.toNat (by omega) (by omega); omega
theorem isJ.pos {g : Nat × Nat × Nat × Nat} {σ : St} {n : Nat} (h1 : n < g.2.2.2) (h2 : σ (40 + n) 0 ≠ -1) : isJb g σ (n : Int) := ⟨by omega, by omega, by rw [Int.toNat_natCast]; exact h2⟩
theorem isJ.neg {g : Nat × Nat × Nat × Nat} {σ : St} {h x : Int} (e : isJ g σ h x) (hx : x = 0) : ¬ isJb g σ h := fun ⟨a, b, c⟩ => by
  have := e.no hx h.toNat (by omega) (by omega); omega
set_option maxHeartbeats 4000000 in
set_option maxRecDepth 100000 in
theorem c_sizeOf {l : Launch} {D : va_G} {ad : Nat → Nat} {g : Nat × Nat × Nat × Nat} (hg : 3 ≤ g.1 ∧ g.1 ≤ 11 ∧ 8 ≤ g.2.1 ∧ g.2.1 ≤ 2048 ∧ 1 ≤ g.2.2.1 ∧ g.2.2.1 ≤ 24 ∧ 1 ≤ g.2.2.2 ∧ g.2.2.2 ≤ 12) (σ : St) (hF : FLG g σ) (h : Int) (rg_h : -2147483648 ≤ h ∧ h < 2147483648) : Kt l D ad g yX5_sizeOf (Cond.code yX5_sizeOf cX5_sizeOf 2 (some .int) :: tb) 2 80 [.ref (ad 0), vi h] σ (fun v σ' => σ = σ' ∧ v = some (vi (aSize g σ h))) := by
  refine ct_of (by decide) rfl (Nat.le_of_ble_eq_true rfl) ?_
  intro p e s m below meth c C
  change X _ _ _ _ _ _ _ _ _ _ _ _ _ _ _ _ [(0, .ref (ad 0)), (1, vi h)] _
  refine x_aload_n C dX5_sizeOf_0 rfl rfl ?_
  refine x_iload_n C dX5_sizeOf_1 rfl rfl ?_
  refine x_callV C (ci := 5) (nn := 1) (c_isNumber hg σ hF h rg_h) g_RX5_94 rfl (by decide +kernel) ⟨by first | decide | omega, by first | decide | omega⟩ rfl rfl rfl rfl rfl (Nat.le_of_ble_eq_true rfl) dX5_sizeOf_2 (fun v h1 hp => ?_)
  obtain ⟨σ1, rfl, rfl, x, rfl, hx⟩ := hp
  have hxr := hx.rg
  dsimp only [Option.toList, List.cons_append, List.nil_append]
  refine x_if_eq (tgt := 20) C dX5_sizeOf_5 (by decide) (by omega) (fun c_5 => ?_) (fun c_5 => ?_)
  · refine x_iconst C dX5_sizeOf_20 ?_
    exact x_iret C dX5_sizeOf_21 ⟨_, rfl, rfl, by unfold aSize; first | rw [if_pos (isN.pos hn hu), Int.toNat_natCast] | rw [if_neg (hx.neg c_5)]⟩
  · obtain ⟨n, rfl, hn, hu⟩ := hx.yes c_5
    refine x_aload_n C dX5_sizeOf_8 rfl rfl ?_
    refine x_get C (Cn := RX5) (T := TX5) (N := 9) (ci := 5) 2 dX5_sizeOf_9 m_w_5 m_f_RX5_44 rfl (by decide) rfl rfl ?_
    refine x_iload_n C dX5_sizeOf_12 rfl rfl ?_
    refine x_aald C 4 (Cn := "LimbKernel$Numeral") dX5_sizeOf_13 rfl rfl (by omega) (by omega) rfl ?_
    try rw [Int.toNat_natCast]
    refine x_get C (Cn := RX2) (T := TX2) (N := 6) (ci := 2) 2 dX5_sizeOf_14 m_w_2 m_f_RX5_110 rfl (by decide) (kc_num (by omega)) rfl ?_
    refine x_goto (tgt := 21) C dX5_sizeOf_17 (by decide) ?_
    exact x_iret C dX5_sizeOf_21 ⟨_, rfl, rfl, by unfold aSize; first | rw [if_pos (isN.pos hn hu), Int.toNat_natCast] | rw [if_neg (hx.neg c_5)]⟩
set_option maxHeartbeats 4000000 in
set_option maxRecDepth 100000 in
theorem c_jobState {l : Launch} {D : va_G} {ad : Nat → Nat} {g : Nat × Nat × Nat × Nat} (hg : 3 ≤ g.1 ∧ g.1 ≤ 11 ∧ 8 ≤ g.2.1 ∧ g.2.1 ≤ 2048 ∧ 1 ≤ g.2.2.1 ∧ g.2.2.1 ≤ 24 ∧ 1 ≤ g.2.2.2 ∧ g.2.2.2 ≤ 12) (σ : St) (hS : STT g σ) (j : Int) (rg_j : -2147483648 ≤ j ∧ j < 2147483648) : Kt l D ad g yX5_jobState (Cond.code yX5_jobState cX5_jobState 2 (some .int) :: tb) 1 60 [.ref (ad 0), vi j] σ (fun v σ' => σ = σ' ∧ v = some (vi (aState g σ j))) := by
  refine ct_of (by decide) rfl (Nat.le_of_ble_eq_true rfl) ?_
  intro p e s m below meth c C
  change X _ _ _ _ _ _ _ _ _ _ _ _ _ _ _ _ [(0, .ref (ad 0)), (1, vi j)] _
  refine x_aload_n C dX5_jobState_0 rfl rfl ?_
  refine x_iload_n C dX5_jobState_1 rfl rfl ?_
  refine x_callV C (ci := 5) (nn := 1) (c_isJob hg σ hS j rg_j) g_RX5_154 rfl (by decide +kernel) ⟨by first | decide | omega, by first | decide | omega⟩ rfl rfl rfl rfl rfl (Nat.le_of_ble_eq_true rfl) dX5_jobState_2 (fun v h1 hp => ?_)
  obtain ⟨σ1, rfl, rfl, x, rfl, hx⟩ := hp
  have hxr := hx.rg
  dsimp only [Option.toList, List.cons_append, List.nil_append]
  refine x_if_eq (tgt := 20) C dX5_jobState_5 (by decide) (by omega) (fun c_5 => ?_) (fun c_5 => ?_)
  · refine x_iconst C dX5_jobState_20 ?_
    exact x_iret C dX5_jobState_21 ⟨_, rfl, rfl, by unfold aState; first | rw [if_pos (isJ.pos hn hu), Int.toNat_natCast] | rw [if_neg (hx.neg c_5)]⟩
  · obtain ⟨n, rfl, hn, hu⟩ := hx.yes c_5
    refine x_aload_n C dX5_jobState_8 rfl rfl ?_
    refine x_get C (Cn := RX5) (T := TX5) (N := 9) (ci := 5) 3 dX5_jobState_9 m_w_5 m_f_RX5_37 rfl (by decide) rfl rfl ?_
    refine x_iload_n C dX5_jobState_12 rfl rfl ?_
    refine x_aald C 3 (Cn := "LimbKernel$Job") dX5_jobState_13 rfl rfl (by omega) (by omega) rfl ?_
    try rw [Int.toNat_natCast]
    refine x_get C (Cn := RX0) (T := TX0) (N := 11) (ci := 0) 0 dX5_jobState_14 m_w_0 m_f_RX5_141 rfl (by decide) (kc_job (by omega) (by omega)) rfl ?_
    refine x_goto (tgt := 21) C dX5_jobState_17 (by decide) ?_
    exact x_iret C dX5_jobState_21 ⟨_, rfl, rfl, by unfold aState; first | rw [if_pos (isJ.pos hn hu), Int.toNat_natCast] | rw [if_neg (hx.neg c_5)]⟩
set_option maxHeartbeats 4000000 in
set_option maxRecDepth 100000 in
theorem c_jobResult {l : Launch} {D : va_G} {ad : Nat → Nat} {g : Nat × Nat × Nat × Nat} (hg : 3 ≤ g.1 ∧ g.1 ≤ 11 ∧ 8 ≤ g.2.1 ∧ g.2.1 ≤ 2048 ∧ 1 ≤ g.2.2.1 ∧ g.2.2.1 ≤ 24 ∧ 1 ≤ g.2.2.2 ∧ g.2.2.2 ≤ 12) (σ : St) (hS : STT g σ) (j : Int) (rg_j : -2147483648 ≤ j ∧ j < 2147483648) : Kt l D ad g yX5_jobResult (Cond.code yX5_jobResult cX5_jobResult 2 (some .int) :: tb) 1 60 [.ref (ad 0), vi j] σ (fun v σ' => σ = σ' ∧ v = some (vi (aResult g σ j))) := by
  refine ct_of (by decide) rfl (Nat.le_of_ble_eq_true rfl) ?_
  intro p e s m below meth c C
  change X _ _ _ _ _ _ _ _ _ _ _ _ _ _ _ _ [(0, .ref (ad 0)), (1, vi j)] _
  refine x_aload_n C dX5_jobResult_0 rfl rfl ?_
  refine x_iload_n C dX5_jobResult_1 rfl rfl ?_
  refine x_callV C (ci := 5) (nn := 1) (c_isJob hg σ hS j rg_j) g_RX5_154 rfl (by decide +kernel) ⟨by first | decide | omega, by first | decide | omega⟩ rfl rfl rfl rfl rfl (Nat.le_of_ble_eq_true rfl) dX5_jobResult_2 (fun v h1 hp => ?_)
  obtain ⟨σ1, rfl, rfl, x, rfl, hx⟩ := hp
  have hxr := hx.rg
  dsimp only [Option.toList, List.cons_append, List.nil_append]
  refine x_if_eq (tgt := 20) C dX5_jobResult_5 (by decide) (by omega) (fun c_5 => ?_) (fun c_5 => ?_)
  · refine x_iconst C dX5_jobResult_20 ?_
    exact x_iret C dX5_jobResult_21 ⟨_, rfl, rfl, by unfold aResult; first | rw [if_pos (isJ.pos hn hu), Int.toNat_natCast] | rw [if_neg (hx.neg c_5)]⟩
  · obtain ⟨n, rfl, hn, hu⟩ := hx.yes c_5
    refine x_aload_n C dX5_jobResult_8 rfl rfl ?_
    refine x_get C (Cn := RX5) (T := TX5) (N := 9) (ci := 5) 3 dX5_jobResult_9 m_w_5 m_f_RX5_37 rfl (by decide) rfl rfl ?_
    refine x_iload_n C dX5_jobResult_12 rfl rfl ?_
    refine x_aald C 3 (Cn := "LimbKernel$Job") dX5_jobResult_13 rfl rfl (by omega) (by omega) rfl ?_
    try rw [Int.toNat_natCast]
    refine x_get C (Cn := RX0) (T := TX0) (N := 11) (ci := 0) 5 dX5_jobResult_14 m_w_0 m_f_RX5_113 rfl (by decide) (kc_job (by omega) (by omega)) rfl ?_
    refine x_goto (tgt := 21) C dX5_jobResult_17 (by decide) ?_
    exact x_iret C dX5_jobResult_21 ⟨_, rfl, rfl, by unfold aResult; first | rw [if_pos (isJ.pos hn hu), Int.toNat_natCast] | rw [if_neg (hx.neg c_5)]⟩
set_option maxHeartbeats 4000000 in
set_option maxRecDepth 100000 in
theorem c_workLeft {l : Launch} {D : va_G} {ad : Nat → Nat} {g : Nat × Nat × Nat × Nat} (hg : 3 ≤ g.1 ∧ g.1 ≤ 11 ∧ 8 ≤ g.2.1 ∧ g.2.1 ≤ 2048 ∧ 1 ≤ g.2.2.1 ∧ g.2.2.1 ≤ 24 ∧ 1 ≤ g.2.2.2 ∧ g.2.2.2 ≤ 12) (σ : St) (hS : STT g σ) (j : Int) (rg_j : -2147483648 ≤ j ∧ j < 2147483648) : Kt l D ad g yX5_workLeft (Cond.code yX5_workLeft cX5_workLeft 2 (some .long) :: tb) 1 60 [.ref (ad 0), vi j] σ (fun v σ' => σ = σ' ∧ v = some (vl (aWork g σ j))) := by
  refine ct_of (by decide) rfl (Nat.le_of_ble_eq_true rfl) ?_
  intro p e s m below meth c C
  change X _ _ _ _ _ _ _ _ _ _ _ _ _ _ _ _ [(0, .ref (ad 0)), (1, vi j)] _
  refine x_aload_n C dX5_workLeft_0 rfl rfl ?_
  refine x_iload_n C dX5_workLeft_1 rfl rfl ?_
  refine x_callV C (ci := 5) (nn := 1) (c_isJob hg σ hS j rg_j) g_RX5_154 rfl (by decide +kernel) ⟨by first | decide | omega, by first | decide | omega⟩ rfl rfl rfl rfl rfl (Nat.le_of_ble_eq_true rfl) dX5_workLeft_2 (fun v h1 hp => ?_)
  obtain ⟨σ1, rfl, rfl, x, rfl, hx⟩ := hp
  have hxr := hx.rg
  dsimp only [Option.toList, List.cons_append, List.nil_append]
  refine x_if_eq (tgt := 20) C dX5_workLeft_5 (by decide) (by omega) (fun c_5 => ?_) (fun c_5 => ?_)
  · refine x_ldc2 C (z := -1) dX5_workLeft_20 (C.2.2.2.2.1 _ m_k_RX5_161) (by decide) ?_
    exact x_lret C dX5_workLeft_23 ⟨_, rfl, rfl, by unfold aWork; first | rw [if_pos (isJ.pos hn hu), Int.toNat_natCast] | rw [if_neg (hx.neg c_5)]⟩
  · obtain ⟨n, rfl, hn, hu⟩ := hx.yes c_5
    refine x_aload_n C dX5_workLeft_8 rfl rfl ?_
    refine x_get C (Cn := RX5) (T := TX5) (N := 9) (ci := 5) 3 dX5_workLeft_9 m_w_5 m_f_RX5_37 rfl (by decide) rfl rfl ?_
    refine x_iload_n C dX5_workLeft_12 rfl rfl ?_
    refine x_aald C 3 (Cn := "LimbKernel$Job") dX5_workLeft_13 rfl rfl (by omega) (by omega) rfl ?_
    try rw [Int.toNat_natCast]
    refine x_get C (Cn := RX0) (T := TX0) (N := 11) (ci := 0) 10 dX5_workLeft_14 m_w_0 m_f_RX5_157 rfl (by decide) (kc_job (by omega) (by omega)) rfl ?_
    refine x_goto (tgt := 23) C dX5_workLeft_17 (by decide) ?_
    exact x_lret C dX5_workLeft_23 ⟨_, rfl, rfl, by unfold aWork; first | rw [if_pos (isJ.pos hn hu), Int.toNat_natCast] | rw [if_neg (hx.neg c_5)]⟩
set_option maxHeartbeats 4000000 in
set_option maxRecDepth 100000 in
theorem c_number {l : Launch} {D : va_G} {ad : Nat → Nat} {g : Nat × Nat × Nat × Nat} (hg : 3 ≤ g.1 ∧ g.1 ≤ 11 ∧ 8 ≤ g.2.1 ∧ g.2.1 ≤ 2048 ∧ 1 ≤ g.2.2.1 ∧ g.2.2.1 ≤ 24 ∧ 1 ≤ g.2.2.2 ∧ g.2.2.2 ≤ 12) (σ : St) (hF : FLG g σ) (h w : Int) (rg_h : -2147483648 ≤ h ∧ h < 2147483648) (rg_w : -2147483648 ≤ w ∧ w < 2147483648) : Kt l D ad g yX5_number (Cond.code yX5_number cX5_number 3 (some .int) :: tb) 2 80 [.ref (ad 0), vi h, vi w] σ (fun v σ' => σ = σ' ∧ v = some (vi (aNumber g σ h w))) := by
  refine ct_of (by decide) rfl (Nat.le_of_ble_eq_true rfl) ?_
  intro p e s m below meth c C
  change X _ _ _ _ _ _ _ _ _ _ _ _ _ _ _ _ [(0, .ref (ad 0)), (1, vi h), (2, vi w)] _
  refine x_aload_n C dX5_number_0 rfl rfl ?_
  refine x_iload_n C dX5_number_1 rfl rfl ?_
  refine x_callV C (ci := 5) (nn := 1) (c_isNumber hg σ hF h rg_h) g_RX5_94 rfl (by decide +kernel) ⟨by first | decide | omega, by first | decide | omega⟩ rfl rfl rfl rfl rfl (Nat.le_of_ble_eq_true rfl) dX5_number_2 (fun v h1 hp => ?_)
  obtain ⟨σ1, rfl, rfl, x, rfl, hx⟩ := hp
  have hxr := hx.rg
  dsimp only [Option.toList, List.cons_append, List.nil_append]
  refine x_if_ne (tgt := 10) C dX5_number_5 (by decide) (by omega) (fun c_5 => ?_) (fun c_5 => ?_)
  · obtain ⟨n, rfl, hn, hu⟩ := hx.yes c_5
    refine x_iload_n C dX5_number_10 rfl rfl ?_
    rcases (show (w < 0 ∨ 2 < w) ∨ w = 0 ∨ w = 1 ∨ w = 2 by omega) with c_11 | c_11 | c_11 | c_11
    · refine x_tableOut (tgt := 66) C dX5_number_11 (by omega) c_11 (by decide) ?_
      refine x_iconst C dX5_number_66 ?_
      exact x_iret C dX5_number_67 ⟨_, rfl, rfl, by unfold aNumber; rw [if_pos (isN.pos hn hu), if_neg (by omega), if_neg (by omega), if_neg (by omega)]⟩
    · refine x_tableIn (off := 25) (tgt := 36) C dX5_number_11 (by omega) (by omega) (by omega) (by rw [c_11]; rfl) (by decide) ?_
      refine x_aload_n C dX5_number_36 rfl rfl ?_
      refine x_get C (Cn := RX5) (T := TX5) (N := 9) (ci := 5) 2 dX5_number_37 m_w_5 m_f_RX5_44 rfl (by decide) rfl rfl ?_
      refine x_iload_n C dX5_number_40 rfl rfl ?_
      refine x_aald C 4 (Cn := "LimbKernel$Numeral") dX5_number_41 rfl rfl (by omega) (by omega) rfl ?_
      try rw [Int.toNat_natCast]
      refine x_get C (Cn := RX2) (T := TX2) (N := 6) (ci := 2) 3 dX5_number_42 m_w_2 m_f_RX5_104 rfl (by decide) (kc_num (by omega)) rfl ?_
      exact x_iret C dX5_number_45 ⟨_, rfl, rfl, by unfold aNumber; rw [if_pos (isN.pos hn hu)]; simp only [Int.toNat_natCast, c_11]; first | rfl | (rw [if_neg (by omega), if_neg (by omega), if_neg (by omega)]) | simp⟩
    · refine x_tableIn (off := 35) (tgt := 46) C dX5_number_11 (by omega) (by omega) (by omega) (by rw [c_11]; rfl) (by decide) ?_
      refine x_aload_n C dX5_number_46 rfl rfl ?_
      refine x_get C (Cn := RX5) (T := TX5) (N := 9) (ci := 5) 2 dX5_number_47 m_w_5 m_f_RX5_44 rfl (by decide) rfl rfl ?_
      refine x_iload_n C dX5_number_50 rfl rfl ?_
      refine x_aald C 4 (Cn := "LimbKernel$Numeral") dX5_number_51 rfl rfl (by omega) (by omega) rfl ?_
      try rw [Int.toNat_natCast]
      refine x_get C (Cn := RX2) (T := TX2) (N := 6) (ci := 2) 4 dX5_number_52 m_w_2 m_f_RX5_187 rfl (by decide) (kc_num (by omega)) rfl ?_
      exact x_iret C dX5_number_55 ⟨_, rfl, rfl, by unfold aNumber; rw [if_pos (isN.pos hn hu)]; simp only [Int.toNat_natCast, c_11]; first | rfl | (rw [if_neg (by omega), if_neg (by omega), if_neg (by omega)]) | simp⟩
    · refine x_tableIn (off := 45) (tgt := 56) C dX5_number_11 (by omega) (by omega) (by omega) (by rw [c_11]; rfl) (by decide) ?_
      refine x_aload_n C dX5_number_56 rfl rfl ?_
      refine x_get C (Cn := RX5) (T := TX5) (N := 9) (ci := 5) 2 dX5_number_57 m_w_5 m_f_RX5_44 rfl (by decide) rfl rfl ?_
      refine x_iload_n C dX5_number_60 rfl rfl ?_
      refine x_aald C 4 (Cn := "LimbKernel$Numeral") dX5_number_61 rfl rfl (by omega) (by omega) rfl ?_
      try rw [Int.toNat_natCast]
      refine x_get C (Cn := RX2) (T := TX2) (N := 6) (ci := 2) 5 dX5_number_62 m_w_2 m_f_RX5_98 rfl (by decide) (kc_num (by omega)) rfl ?_
      exact x_iret C dX5_number_65 ⟨_, rfl, rfl, by unfold aNumber; rw [if_pos (isN.pos hn hu)]; simp only [Int.toNat_natCast, c_11]; first | rfl | (rw [if_neg (by omega), if_neg (by omega), if_neg (by omega)]) | simp⟩
  · refine x_iconst C dX5_number_8 ?_
    exact x_iret C dX5_number_9 ⟨_, rfl, rfl, by unfold aNumber; rw [if_neg (hx.neg c_5)]⟩
set_option maxHeartbeats 4000000 in
set_option maxRecDepth 100000 in
theorem c_count {l : Launch} {D : va_G} {ad : Nat → Nat} {g : Nat × Nat × Nat × Nat} (hg : 3 ≤ g.1 ∧ g.1 ≤ 11 ∧ 8 ≤ g.2.1 ∧ g.2.1 ≤ 2048 ∧ 1 ≤ g.2.2.1 ∧ g.2.2.1 ≤ 24 ∧ 1 ≤ g.2.2.2 ∧ g.2.2.2 ≤ 12) (σ : St) (q : List Int) (hq : Qs g σ q) (w k : Int) (rg_w : -2147483648 ≤ w ∧ w < 2147483648) (rg_k : -2147483648 ≤ k ∧ k < 2147483648) : Kt l D ad g yX5_count (Cond.code yX5_count cX5_count 3 (some .int) :: tb) 2 80 [.ref (ad 0), vi w, vi k] σ (fun v σ' => σ = σ' ∧ v = some (vi (aCount σ q w k))) := by
  refine ct_of (by decide) rfl (Nat.le_of_ble_eq_true rfl) ?_
  intro p e s m below meth c C
  change X _ _ _ _ _ _ _ _ _ _ _ _ _ _ _ _ [(0, .ref (ad 0)), (1, vi w), (2, vi k)] _
  refine x_iload_n C dX5_count_0 rfl rfl ?_
  rcases (show (w < 0 ∨ 4 < w) ∨ w = 0 ∨ w = 1 ∨ w = 2 ∨ w = 3 ∨ w = 4 by omega) with c_1 | c_1 | c_1 | c_1 | c_1 | c_1
  · refine x_tableOut (tgt := 68) C dX5_count_1 (by omega) c_1 (by decide) ?_
    refine x_iconst C dX5_count_68 ?_
    exact x_iret C dX5_count_69 ⟨_, rfl, rfl, by unfold aCount; rw [if_neg (by omega), if_neg (by omega), if_neg (by omega), if_neg (by omega), if_neg (by omega)]⟩
  · refine x_tableIn (off := 35) (tgt := 36) C dX5_count_1 (by omega) (by omega) (by omega) (by rw [c_1]; rfl) (by decide) ?_
    refine x_aload_n C dX5_count_36 rfl rfl ?_
    refine x_get C (Cn := RX5) (T := TX5) (N := 9) (ci := 5) 6 dX5_count_37 m_w_5 m_f_RX5_63 rfl (by decide) rfl rfl ?_
    exact x_iret C dX5_count_40 ⟨_, rfl, rfl, by unfold aCount; simp only [c_1]; rfl⟩
  · refine x_tableIn (off := 40) (tgt := 41) C dX5_count_1 (by omega) (by omega) (by omega) (by rw [c_1]; rfl) (by decide) ?_
    refine x_aload_n C dX5_count_41 rfl rfl ?_
    refine x_get C (Cn := RX5) (T := TX5) (N := 9) (ci := 5) 7 dX5_count_42 m_w_5 m_f_RX5_60 rfl (by decide) rfl rfl ?_
    exact x_iret C dX5_count_45 ⟨_, rfl, rfl, by unfold aCount; simp only [c_1]; rfl⟩
  · refine x_tableIn (off := 45) (tgt := 46) C dX5_count_1 (by omega) (by omega) (by omega) (by rw [c_1]; rfl) (by decide) ?_
    refine x_aload_n C dX5_count_46 rfl rfl ?_
    refine x_get C (Cn := RX5) (T := TX5) (N := 9) (ci := 5) 4 dX5_count_47 m_w_5 m_f_RX5_52 rfl (by decide) rfl rfl ?_
    refine x_get C (Cn := RX3) (T := TX3) (N := 3) (ci := 3) 2 dX5_count_50 m_w_3 m_f_RX5_190 rfl (by decide) rfl rfl ?_
    exact x_iret C dX5_count_53 ⟨_, rfl, rfl, by unfold aCount; simp only [c_1]; rw [hq.2.1]; rfl⟩
  · refine x_tableIn (off := 53) (tgt := 54) C dX5_count_1 (by omega) (by omega) (by omega) (by rw [c_1]; rfl) (by decide) ?_
    refine x_aload_n C dX5_count_54 rfl rfl ?_
    refine x_get C (Cn := RX5) (T := TX5) (N := 9) (ci := 5) 8 dX5_count_55 m_w_5 m_f_RX5_75 rfl (by decide) rfl rfl ?_
    exact x_iret C dX5_count_58 ⟨_, rfl, rfl, by unfold aCount; simp only [c_1]; rfl⟩
  · refine x_tableIn (off := 58) (tgt := 59) C dX5_count_1 (by omega) (by omega) (by omega) (by rw [c_1]; rfl) (by decide) ?_
    refine x_aload_n C dX5_count_59 rfl rfl ?_
    refine x_get C (Cn := RX5) (T := TX5) (N := 9) (ci := 5) 4 dX5_count_60 m_w_5 m_f_RX5_52 rfl (by decide) rfl rfl ?_
    refine x_iload_n C dX5_count_63 rfl rfl ?_
    refine x_callV C (ci := 3) (nn := 1) (c_queueAt hg σ q hq k rg_k) g_RX5_193 rfl (by decide +kernel) ⟨by first | decide | omega, by first | decide | omega⟩ rfl rfl rfl rfl rfl (Nat.le_of_ble_eq_true rfl) dX5_count_64 (fun v h1 hp => ?_)
    obtain ⟨σ1, rfl, rfl, rfl⟩ := hp
    dsimp only [Option.toList, List.cons_append, List.nil_append]
    exact x_iret C dX5_count_67 ⟨_, rfl, rfl, by unfold aCount; simp only [c_1]; rfl⟩
set_option maxHeartbeats 4000000 in
set_option maxRecDepth 100000 in
theorem c_freeCells {l : Launch} {D : va_G} {ad : Nat → Nat} {g : Nat × Nat × Nat × Nat} (hg : 3 ≤ g.1 ∧ g.1 ≤ 11 ∧ 8 ≤ g.2.1 ∧ g.2.1 ≤ 2048 ∧ 1 ≤ g.2.2.1 ∧ g.2.2.1 ≤ 24 ∧ 1 ≤ g.2.2.2 ∧ g.2.2.2 ≤ 12) (σ : St) : Kt l D ad g yX5_freeCells (Cond.code yX5_freeCells cX5_freeCells 1 (some .int) :: tb) 1 40 [.ref (ad 0)] σ (fun v σ' => σ = σ' ∧ v = some (vi (sumF (σ 3) (g.1 + 1)))) := by
  refine ct_of (by decide) rfl (Nat.le_of_ble_eq_true rfl) ?_
  intro p e s m below meth c C
  change X _ _ _ _ _ _ _ _ _ _ _ _ _ _ _ _ [(0, .ref (ad 0))] _
  refine x_aload_n C dX5_freeCells_0 rfl rfl ?_
  refine x_get C (Cn := RX5) (T := TX5) (N := 9) (ci := 5) 0 dX5_freeCells_1 m_w_5 m_f_RX5_18 rfl (by decide) rfl rfl ?_
  refine x_callV C (ci := 1) (nn := 0) (c_freeLimbs hg σ) g_RX5_174 rfl (by decide +kernel) ⟨by first | decide | omega, by first | decide | omega⟩ rfl rfl rfl rfl rfl (Nat.le_of_ble_eq_true rfl) dX5_freeCells_4 (fun v h1 hp => ?_)
  obtain ⟨σ1, rfl, rfl, rfl⟩ := hp
  dsimp only [Option.toList, List.cons_append, List.nil_append]
  exact x_iret C dX5_freeCells_7 ⟨_, rfl, rfl, rfl⟩
def fbP (g : Nat × Nat × Nat × Nat) (σ : St) (o k r : Int) : Prop := (¬ (0 ≤ o ∧ o ≤ g.1) ∧ r = -1) ∨ ((0 ≤ o ∧ o ≤ g.1) ∧ ((k = -1 ∧ r = cnt (σ 4) o g.2.1) ∨ (k ≠ -1 ∧ adP (σ 4) g.2.1 o k r)))
set_option maxHeartbeats 4000000 in
set_option maxRecDepth 100000 in
theorem c_freeBlock {l : Launch} {D : va_G} {ad : Nat → Nat} {g : Nat × Nat × Nat × Nat} (hg : 3 ≤ g.1 ∧ g.1 ≤ 11 ∧ 8 ≤ g.2.1 ∧ g.2.1 ≤ 2048 ∧ 1 ≤ g.2.2.1 ∧ g.2.2.1 ≤ 24 ∧ 1 ≤ g.2.2.2 ∧ g.2.2.2 ≤ 12) (hnp : g.2.1 = 2 ^ g.1) (σ : St) (hM : MI g.1 (σ 4)) (hC : CN g σ) (o k : Int) (rg_o : -2147483648 ≤ o ∧ o < 2147483648) (rg_k : -2147483648 ≤ k ∧ k < 2147483648) : Kt l D ad g yX5_freeBlock (Cond.code yX5_freeBlock cX5_freeBlock 3 (some .int) :: tb) 1 40 [.ref (ad 0), vi o, vi k] σ (fun v σ' => σ = σ' ∧ ∃ r : Int, v = some (vi r) ∧ fbP g σ o k r) := by
  refine ct_of (by decide) rfl (Nat.le_of_ble_eq_true rfl) ?_
  intro p e s m below meth c C
  change X _ _ _ _ _ _ _ _ _ _ _ _ _ _ _ _ [(0, .ref (ad 0)), (1, vi o), (2, vi k)] _
  refine x_iload_n C dX5_freeBlock_0 rfl rfl ?_
  refine x_if_lt (tgt := 15) C dX5_freeBlock_1 (by decide) (by omega) (fun c_1 => ?_) (fun c_1 => ?_)
  · refine x_iconst C dX5_freeBlock_15 ?_
    exact x_iret C dX5_freeBlock_16 ⟨_, rfl, rfl, _, rfl, Or.inl ⟨by omega, rfl⟩⟩
  · refine x_iload_n C dX5_freeBlock_4 rfl rfl ?_
    refine x_aload_n C dX5_freeBlock_5 rfl rfl ?_
    refine x_get C (Cn := RX5) (T := TX5) (N := 9) (ci := 5) 0 dX5_freeBlock_6 m_w_5 m_f_RX5_18 rfl (by decide) rfl rfl ?_
    refine x_get C (Cn := RX1) (T := TX1) (N := 4) (ci := 1) 0 dX5_freeBlock_9 m_w_1 m_f_RX5_177 rfl (by decide) rfl rfl ?_
    refine x_icmp_le (tgt := 17) C dX5_freeBlock_12 (by decide) (by omega) (by omega) (fun c_12 => ?_) (fun c_12 => ?_)
    · obtain ⟨n, rfl⟩ : ∃ n : Nat, o = n := ⟨o.toNat, by omega⟩
      refine x_iload_n C dX5_freeBlock_17 rfl rfl ?_
      refine x_iconst C dX5_freeBlock_18 ?_
      refine x_icmp_ne (tgt := 34) C dX5_freeBlock_19 (by decide) (by omega) (by omega) (fun c_19 => ?_) (fun c_19 => ?_)
      · refine x_aload_n C dX5_freeBlock_34 rfl rfl ?_
        refine x_get C (Cn := RX5) (T := TX5) (N := 9) (ci := 5) 0 dX5_freeBlock_35 m_w_5 m_f_RX5_18 rfl (by decide) rfl rfl ?_
        refine x_iload_n C dX5_freeBlock_38 rfl rfl ?_
        refine x_iload_n C dX5_freeBlock_39 rfl rfl ?_
        refine x_callV C (ci := 1) (nn := 2) (c_addressOfFree hg hnp σ hM hC n (by omega) k rg_k) g_RX5_183 rfl (by decide +kernel) ⟨by first | decide | omega, by first | decide | omega⟩ rfl rfl rfl rfl rfl (Nat.le_of_ble_eq_true rfl) dX5_freeBlock_40 (fun v h1 hp => ?_)
        obtain ⟨σ1, rfl, rfl, r, rfl, hr⟩ := hp
        dsimp only [Option.toList, List.cons_append, List.nil_append]
        exact x_iret C dX5_freeBlock_43 ⟨_, rfl, rfl, _, rfl, Or.inr ⟨by omega, by first | exact Or.inl ⟨c_19, hC n (by omega)⟩ | exact Or.inr ⟨c_19, hr⟩⟩⟩
      · refine x_aload_n C dX5_freeBlock_22 rfl rfl ?_
        refine x_get C (Cn := RX5) (T := TX5) (N := 9) (ci := 5) 0 dX5_freeBlock_23 m_w_5 m_f_RX5_18 rfl (by decide) rfl rfl ?_
        refine x_get C (Cn := RX1) (T := TX1) (N := 4) (ci := 1) 2 dX5_freeBlock_26 m_w_1 m_f_RX5_180 rfl (by decide) rfl rfl ?_
        refine x_iload_n C dX5_freeBlock_29 rfl rfl ?_
        refine x_iald C dX5_freeBlock_30 rfl (by omega) (by omega) ?_
        rw [Int.toNat_natCast]
        refine x_goto (tgt := 43) C dX5_freeBlock_31 (by decide) ?_
        exact x_iret C dX5_freeBlock_43 ⟨_, rfl, rfl, _, rfl, Or.inr ⟨by omega, by first | exact Or.inl ⟨c_19, hC n (by omega)⟩ | exact Or.inr ⟨c_19, hr⟩⟩⟩
    · refine x_iconst C dX5_freeBlock_15 ?_
      exact x_iret C dX5_freeBlock_16 ⟨_, rfl, rfl, _, rfl, Or.inl ⟨by omega, rfl⟩⟩
set_option maxHeartbeats 4000000 in
set_option maxRecDepth 100000 in
theorem c_getLimb {l : Launch} {D : va_G} {ad : Nat → Nat} {g : Nat × Nat × Nat × Nat} (hg : 3 ≤ g.1 ∧ g.1 ≤ 11 ∧ 8 ≤ g.2.1 ∧ g.2.1 ≤ 2048 ∧ 1 ≤ g.2.2.1 ∧ g.2.2.1 ≤ 24 ∧ 1 ≤ g.2.2.2 ∧ g.2.2.2 ≤ 12) (σ : St) (hF : FLG g σ) (hN : NUM g σ) (h i : Int) (rg_h : -2147483648 ≤ h ∧ h < 2147483648) (rg_i : -2147483648 ≤ i ∧ i < 2147483648) : Kt l D ad g yX5_getLimb (Cond.code yX5_getLimb cX5_getLimb 3 (some .int) :: tb) 2 80 [.ref (ad 0), vi h, vi i] σ (fun v σ' => σ = σ' ∧ v = some (vi (aLimb g σ h i))) := by
  refine ct_of (by decide) rfl (Nat.le_of_ble_eq_true rfl) ?_
  intro p e s m below meth c C
  change X _ _ _ _ _ _ _ _ _ _ _ _ _ _ _ _ [(0, .ref (ad 0)), (1, vi h), (2, vi i)] _
  refine x_aload_n C dX5_getLimb_0 rfl rfl ?_
  refine x_iload_n C dX5_getLimb_1 rfl rfl ?_
  refine x_callV C (ci := 5) (nn := 1) (c_isFinished hg σ hF h rg_h) g_RX5_107 rfl (by decide +kernel) ⟨by first | decide | omega, by first | decide | omega⟩ rfl rfl rfl rfl rfl (Nat.le_of_ble_eq_true rfl) dX5_getLimb_2 (fun v h1 hp => ?_)
  obtain ⟨σ1, rfl, rfl, x, rfl, hx⟩ := hp
  have hxr := hx.rg
  dsimp only [Option.toList, List.cons_append, List.nil_append]
  refine x_if_eq (tgt := 21) C dX5_getLimb_5 (by decide) (by omega) (fun c_5 => ?_) (fun c_5 => ?_)
  · refine x_iconst C dX5_getLimb_21 ?_
    exact x_iret C dX5_getLimb_22 ⟨_, rfl, rfl, by unfold aLimb; rw [if_neg (fun ⟨⟨a1, a2, a3⟩, a4, _⟩ => hx.no c_5 h.toNat (by omega) (by omega) ⟨a3, a4⟩)]⟩
  · obtain ⟨n, rfl, hn, hu, hf⟩ := hx.yes c_5
    obtain ⟨A, sz, hNM, -⟩ := hN n hn hu
    obtain ⟨-, n3, n2, nA⟩ := id hNM
    refine x_aload_n C dX5_getLimb_8 rfl rfl ?_
    refine x_get C (Cn := RX5) (T := TX5) (N := 9) (ci := 5) 2 dX5_getLimb_9 m_w_5 m_f_RX5_44 rfl (by decide) rfl rfl ?_
    refine x_iload_n C dX5_getLimb_12 rfl rfl ?_
    refine x_aald C 4 (Cn := "LimbKernel$Numeral") dX5_getLimb_13 rfl rfl (by omega) (by omega) rfl ?_
    try rw [Int.toNat_natCast]
    refine x_iload_n C dX5_getLimb_14 rfl rfl ?_
    refine x_callV C (ci := 2) (nn := 1) (c_hasLimb hg σ n hn i rg_i (by omega)) g_RX5_101 rfl (by decide +kernel) ⟨by first | decide | omega, by first | decide | omega⟩ rfl rfl (kc_num (by omega)) rfl rfl (Nat.le_of_ble_eq_true rfl) dX5_getLimb_15 (fun v h1 hp => ?_)
    obtain ⟨σ1, rfl, rfl, rfl⟩ := hp
    dsimp only [Option.toList, List.cons_append, List.nil_append]
    refine x_if_ne (tgt := 23) C dX5_getLimb_18 (by decide) (by split <;> omega) (fun c_18 => ?_) (fun c_18 => ?_)
    · have hin : 0 ≤ i ∧ i < σ (10 + n) 2 := by
        by_cases c : 0 ≤ i ∧ i < σ (10 + n) 2
        · exact c
        · rw [if_neg c] at c_18; exact absurd rfl c_18
      refine x_aload_n C dX5_getLimb_23 rfl rfl ?_
      refine x_get C (Cn := RX5) (T := TX5) (N := 9) (ci := 5) 0 dX5_getLimb_24 m_w_5 m_f_RX5_18 rfl (by decide) rfl rfl ?_
      refine x_get C (Cn := RX1) (T := TX1) (N := 4) (ci := 1) 1 dX5_getLimb_27 m_w_1 m_f_RX5_24 rfl (by decide) rfl rfl ?_
      refine x_aload_n C dX5_getLimb_30 rfl rfl ?_
      refine x_get C (Cn := RX5) (T := TX5) (N := 9) (ci := 5) 2 dX5_getLimb_31 m_w_5 m_f_RX5_44 rfl (by decide) rfl rfl ?_
      refine x_iload_n C dX5_getLimb_34 rfl rfl ?_
      refine x_aald C 4 (Cn := "LimbKernel$Numeral") dX5_getLimb_35 rfl rfl (by omega) (by omega) rfl ?_
      try rw [Int.toNat_natCast]
      refine x_get C (Cn := RX2) (T := TX2) (N := 6) (ci := 2) 3 dX5_getLimb_36 m_w_2 m_f_RX5_104 rfl (by decide) (kc_num (by omega)) rfl ?_
      rw [n3]
      refine x_iload_n C dX5_getLimb_39 rfl rfl ?_
      refine x_iadd C dX5_getLimb_40 ?_
      refine x_iald C dX5_getLimb_41 rfl (by omega) (by omega) ?_
      exact x_iret C dX5_getLimb_42 ⟨_, rfl, rfl, by unfold aLimb; rw [if_pos ⟨isN.pos hn hu, by rw [Int.toNat_natCast]; exact hf, by rw [Int.toNat_natCast]; exact hin⟩, Int.toNat_natCast, n3]⟩
    · refine x_iconst C dX5_getLimb_21 ?_
      exact x_iret C dX5_getLimb_22 ⟨_, rfl, rfl, by unfold aLimb; rw [if_neg (fun ⟨_, _, a5⟩ => by rw [Int.toNat_natCast] at a5; rw [if_pos a5] at c_18; omega)]⟩
set_option maxHeartbeats 4000000 in
set_option maxRecDepth 100000 in
theorem c_setLimb {l : Launch} {D : va_G} {ad : Nat → Nat} {g : Nat × Nat × Nat × Nat} (hg : 3 ≤ g.1 ∧ g.1 ≤ 11 ∧ 8 ≤ g.2.1 ∧ g.2.1 ≤ 2048 ∧ 1 ≤ g.2.2.1 ∧ g.2.2.1 ≤ 24 ∧ 1 ≤ g.2.2.2 ∧ g.2.2.2 ≤ 12) (σ : St) (hF : FLG g σ) (hN : NUM g σ) (h i w : Int) (rg_h : -2147483648 ≤ h ∧ h < 2147483648) (rg_i : -2147483648 ≤ i ∧ i < 2147483648) (rg_w : -2147483648 ≤ w ∧ w < 2147483648) : Kt l D ad g yX5_setLimb (Cond.code yX5_setLimb cX5_setLimb 4 (some .boolean) :: tb) 2 80 [.ref (ad 0), vi h, vi i, vi w] σ (fun v σ' => (setOk g σ h i w ∧ v = some (vi 1) ∧ σ' = up σ 2 (σ (10 + h.toNat) 3 + i).toNat w) ∨ (¬ setOk g σ h i w ∧ v = some (vi 0) ∧ σ = σ')) := by
  refine ct_of (by decide) rfl (Nat.le_of_ble_eq_true rfl) ?_
  intro p e s m below meth c C
  change X _ _ _ _ _ _ _ _ _ _ _ _ _ _ _ _ [(0, .ref (ad 0)), (1, vi h), (2, vi i), (3, vi w)] _
  refine x_aload_n C dX5_setLimb_0 rfl rfl ?_
  refine x_iload_n C dX5_setLimb_1 rfl rfl ?_
  refine x_callV C (ci := 5) (nn := 1) (c_isNumber hg σ hF h rg_h) g_RX5_94 rfl (by decide +kernel) ⟨by first | decide | omega, by first | decide | omega⟩ rfl rfl rfl rfl rfl (Nat.le_of_ble_eq_true rfl) dX5_setLimb_2 (fun v h1 hp => ?_)
  obtain ⟨σ1, rfl, rfl, x, rfl, hx⟩ := hp
  have hxr := hx.rg
  dsimp only [Option.toList, List.cons_append, List.nil_append]
  refine x_if_eq (tgt := 37) C dX5_setLimb_5 (by decide) (by omega) (fun c_5 => ?_) (fun c_5 => ?_)
  · refine x_iconst C dX5_setLimb_37 ?_
    refine x_zret C dX5_setLimb_38 (by decide) ⟨_, rfl, Or.inr ⟨?_, rfl, rfl⟩⟩
    first
    | exact fun z => hx.neg c_5 z.1
    | exact fun z => z.2.1 (by rw [Int.toNat_natCast]; exact c_17)
    | exact fun z => by have := z.2.2.1; rw [Int.toNat_natCast] at this; rw [if_pos this] at c_30; omega
    | exact fun z => c_34 z.2.2.2
  · obtain ⟨n, rfl, hn, hu⟩ := hx.yes c_5
    obtain ⟨A, sz, hNM, hpin⟩ := hN n hn hu
    obtain ⟨-, n3, n2, nA⟩ := id hNM
    refine x_aload_n C dX5_setLimb_8 rfl rfl ?_
    refine x_get C (Cn := RX5) (T := TX5) (N := 9) (ci := 5) 2 dX5_setLimb_9 m_w_5 m_f_RX5_44 rfl (by decide) rfl rfl ?_
    refine x_iload_n C dX5_setLimb_12 rfl rfl ?_
    refine x_aald C 4 (Cn := "LimbKernel$Numeral") dX5_setLimb_13 rfl rfl (by omega) (by omega) rfl ?_
    try rw [Int.toNat_natCast]
    refine x_get C (Cn := RX2) (T := TX2) (N := 6) (ci := 2) 5 dX5_setLimb_14 m_w_2 m_f_RX5_98 rfl (by decide) (kc_num (by omega)) rfl ?_
    refine x_if_gt (tgt := 37) C dX5_setLimb_17 (by decide) (by omega) (fun c_17 => ?_) (fun c_17 => ?_)
    · refine x_iconst C dX5_setLimb_37 ?_
      refine x_zret C dX5_setLimb_38 (by decide) ⟨_, rfl, Or.inr ⟨?_, rfl, rfl⟩⟩
      first
      | exact fun z => hx.neg c_5 z.1
      | exact fun z => z.2.1 (by rw [Int.toNat_natCast]; exact c_17)
      | exact fun z => by have := z.2.2.1; rw [Int.toNat_natCast] at this; rw [if_pos this] at c_30; omega
      | exact fun z => c_34 z.2.2.2
    · refine x_aload_n C dX5_setLimb_20 rfl rfl ?_
      refine x_get C (Cn := RX5) (T := TX5) (N := 9) (ci := 5) 2 dX5_setLimb_21 m_w_5 m_f_RX5_44 rfl (by decide) rfl rfl ?_
      refine x_iload_n C dX5_setLimb_24 rfl rfl ?_
      refine x_aald C 4 (Cn := "LimbKernel$Numeral") dX5_setLimb_25 rfl rfl (by omega) (by omega) rfl ?_
      try rw [Int.toNat_natCast]
      refine x_iload_n C dX5_setLimb_26 rfl rfl ?_
      refine x_callV C (ci := 2) (nn := 1) (c_hasLimb hg σ n hn i rg_i (by omega)) g_RX5_101 rfl (by decide +kernel) ⟨by first | decide | omega, by first | decide | omega⟩ rfl rfl (kc_num (by omega)) rfl rfl (Nat.le_of_ble_eq_true rfl) dX5_setLimb_27 (fun v h1 hp => ?_)
      obtain ⟨σ1, rfl, rfl, rfl⟩ := hp
      dsimp only [Option.toList, List.cons_append, List.nil_append]
      refine x_if_eq (tgt := 37) C dX5_setLimb_30 (by decide) (by split <;> omega) (fun c_30 => ?_) (fun c_30 => ?_)
      · refine x_iconst C dX5_setLimb_37 ?_
        refine x_zret C dX5_setLimb_38 (by decide) ⟨_, rfl, Or.inr ⟨?_, rfl, rfl⟩⟩
        first
        | exact fun z => hx.neg c_5 z.1
        | exact fun z => z.2.1 (by rw [Int.toNat_natCast]; exact c_17)
        | exact fun z => by have := z.2.2.1; rw [Int.toNat_natCast] at this; rw [if_pos this] at c_30; omega
        | exact fun z => c_34 z.2.2.2
      · have hin : 0 ≤ i ∧ i < σ (10 + n) 2 := by
          by_cases c : 0 ≤ i ∧ i < σ (10 + n) 2
          · exact c
          · rw [if_neg c] at c_30; exact absurd rfl c_30
        refine x_iload_n C dX5_setLimb_33 rfl rfl ?_
        refine x_if_ge (tgt := 39) C dX5_setLimb_34 (by decide) (by omega) (fun c_34 => ?_) (fun c_34 => ?_)
        · refine x_aload_n C dX5_setLimb_39 rfl rfl ?_
          refine x_get C (Cn := RX5) (T := TX5) (N := 9) (ci := 5) 0 dX5_setLimb_40 m_w_5 m_f_RX5_18 rfl (by decide) rfl rfl ?_
          refine x_get C (Cn := RX1) (T := TX1) (N := 4) (ci := 1) 1 dX5_setLimb_43 m_w_1 m_f_RX5_24 rfl (by decide) rfl rfl ?_
          refine x_aload_n C dX5_setLimb_46 rfl rfl ?_
          refine x_get C (Cn := RX5) (T := TX5) (N := 9) (ci := 5) 2 dX5_setLimb_47 m_w_5 m_f_RX5_44 rfl (by decide) rfl rfl ?_
          refine x_iload_n C dX5_setLimb_50 rfl rfl ?_
          refine x_aald C 4 (Cn := "LimbKernel$Numeral") dX5_setLimb_51 rfl rfl (by omega) (by omega) rfl ?_
          try rw [Int.toNat_natCast]
          refine x_get C (Cn := RX2) (T := TX2) (N := 6) (ci := 2) 3 dX5_setLimb_52 m_w_2 m_f_RX5_104 rfl (by decide) (kc_num (by omega)) rfl ?_
          rw [n3]
          refine x_iload_n C dX5_setLimb_55 rfl rfl ?_
          refine x_iadd C dX5_setLimb_56 ?_
          refine x_iload_n C dX5_setLimb_57 rfl rfl ?_
          refine k_ast C dX5_setLimb_58 (fun _ => rfl) (by omega) (by omega) ?_
          refine x_iconst C dX5_setLimb_59 ?_
          exact x_zret C dX5_setLimb_60 (by decide) ⟨_, rfl, Or.inl ⟨⟨isN.pos hn hu, by rw [Int.toNat_natCast]; exact c_17, by rw [Int.toNat_natCast]; exact hin, c_34⟩, rfl, by simp only [Int.toNat_natCast, n3]⟩⟩
        · refine x_iconst C dX5_setLimb_37 ?_
          refine x_zret C dX5_setLimb_38 (by decide) ⟨_, rfl, Or.inr ⟨?_, rfl, rfl⟩⟩
          first
          | exact fun z => hx.neg c_5 z.1
          | exact fun z => z.2.1 (by rw [Int.toNat_natCast]; exact c_17)
          | exact fun z => by have := z.2.2.1; rw [Int.toNat_natCast] at this; rw [if_pos this] at c_30; omega
          | exact fun z => c_34 z.2.2.2
set_option maxHeartbeats 4000000 in
set_option maxRecDepth 100000 in
theorem c_tick {l : Launch} {D : va_G} {ad : Nat → Nat} {g : Nat × Nat × Nat × Nat} (hg : 3 ≤ g.1 ∧ g.1 ≤ 11 ∧ 8 ≤ g.2.1 ∧ g.2.1 ≤ 2048 ∧ 1 ≤ g.2.2.1 ∧ g.2.2.1 ≤ 24 ∧ 1 ≤ g.2.2.2 ∧ g.2.2.2 ≤ 12) (hnp : g.2.1 = 2 ^ g.1) (σ : St) (q : List Int) (hP : TPre g σ q) : Kt l D ad g yX5_tick (Cond.code yX5_tick cX5_tick 1 (some .int) :: tb) 6 300 [.ref (ad 0)] σ (fun v σ' => ∃ r : Int, v = some (vi r) ∧ TT g σ σ' q r) := by
  refine ct_of (by decide) rfl (Nat.le_of_ble_eq_true rfl) ?_
  intro p e s m below meth c C
  change X _ _ _ _ _ _ _ _ _ _ _ _ _ _ _ _ [(0, .ref (ad 0))] _
  refine x_aload_n C dX5_tick_0 rfl rfl ?_
  refine x_callV C (ci := 5) (nn := 0) (c_takeTurn hg hnp σ q hP) g_RX5_151 rfl (by decide +kernel) ⟨by first | decide | omega, by first | decide | omega⟩ rfl rfl rfl rfl rfl (Nat.le_of_ble_eq_true rfl) dX5_tick_1 (fun v h1 hp => ?_)
  obtain ⟨σ1, rfl, r, rfl, hr⟩ := hp
  dsimp only [Option.toList, List.cons_append, List.nil_append]
  exact x_iret C dX5_tick_4 ⟨_, rfl, r, rfl, hr⟩
