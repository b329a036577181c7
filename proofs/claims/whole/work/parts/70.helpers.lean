/-! THE KERNEL'S HELPERS -/
def FLG (g : Nat × Nat × Nat × Nat) (σ : St) : Prop := ∀ h, h < g.2.2.1 → (σ (10 + h) 0 = 0 ∨ σ (10 + h) 0 = 1) ∧ (σ (10 + h) 1 = 0 ∨ σ (10 + h) 1 = 1)
def STT (g : Nat × Nat × Nat × Nat) (σ : St) : Prop := ∀ j, j < g.2.2.2 → -1 ≤ σ (40 + j) 0 ∧ σ (40 + j) 0 ≤ 3
def isN (g : Nat × Nat × Nat × Nat) (σ : St) (h x : Int) : Prop := (x = 1 ∧ ∃ n : Nat, h = n ∧ n < g.2.2.1 ∧ σ (10 + n) 0 = 1) ∨ (x = 0 ∧ ∀ n : Nat, h = n → n < g.2.2.1 → σ (10 + n) 0 = 0)
def isF (g : Nat × Nat × Nat × Nat) (σ : St) (h x : Int) : Prop := (x = 1 ∧ ∃ n : Nat, h = n ∧ n < g.2.2.1 ∧ σ (10 + n) 0 = 1 ∧ σ (10 + n) 1 = 0) ∨ (x = 0 ∧ ∀ n : Nat, h = n → n < g.2.2.1 → ¬ (σ (10 + n) 0 = 1 ∧ σ (10 + n) 1 = 0))
def isJ (g : Nat × Nat × Nat × Nat) (σ : St) (j x : Int) : Prop := (x = 1 ∧ ∃ n : Nat, j = n ∧ n < g.2.2.2 ∧ σ (40 + n) 0 ≠ -1) ∨ (x = 0 ∧ ∀ n : Nat, j = n → n < g.2.2.2 → σ (40 + n) 0 = -1)
theorem isN.rg {g : Nat × Nat × Nat × Nat} {σ : St} {h x : Int} (e : isN g σ h x) : x = 0 ∨ x = 1 := by rcases e with ⟨e, -⟩ | ⟨e, -⟩ <;> omega
theorem isF.rg {g : Nat × Nat × Nat × Nat} {σ : St} {h x : Int} (e : isF g σ h x) : x = 0 ∨ x = 1 := by rcases e with ⟨e, -⟩ | ⟨e, -⟩ <;> omega
theorem isJ.rg {g : Nat × Nat × Nat × Nat} {σ : St} {h x : Int} (e : isJ g σ h x) : x = 0 ∨ x = 1 := by rcases e with ⟨e, -⟩ | ⟨e, -⟩ <;> omega
theorem isN.yes {g : Nat × Nat × Nat × Nat} {σ : St} {h x : Int} (e : isN g σ h x) (hx : ¬ x = 0) : ∃ n : Nat, h = n ∧ n < g.2.2.1 ∧ σ (10 + n) 0 = 1 := by rcases e with ⟨-, e⟩ | ⟨e, -⟩; exact e; exact absurd e hx
theorem isN.no {g : Nat × Nat × Nat × Nat} {σ : St} {h x : Int} (e : isN g σ h x) (hx : x = 0) : ∀ n : Nat, h = n → n < g.2.2.1 → σ (10 + n) 0 = 0 := by rcases e with ⟨e, -⟩ | ⟨-, e⟩; omega; exact e
theorem isF.yes {g : Nat × Nat × Nat × Nat} {σ : St} {h x : Int} (e : isF g σ h x) (hx : ¬ x = 0) : ∃ n : Nat, h = n ∧ n < g.2.2.1 ∧ σ (10 + n) 0 = 1 ∧ σ (10 + n) 1 = 0 := by rcases e with ⟨-, e⟩ | ⟨e, -⟩; exact e; exact absurd e hx
theorem isF.no {g : Nat × Nat × Nat × Nat} {σ : St} {h x : Int} (e : isF g σ h x) (hx : x = 0) : ∀ n : Nat, h = n → n < g.2.2.1 → ¬ (σ (10 + n) 0 = 1 ∧ σ (10 + n) 1 = 0) := by rcases e with ⟨e, -⟩ | ⟨-, e⟩; omega; exact e
theorem isJ.yes {g : Nat × Nat × Nat × Nat} {σ : St} {h x : Int} (e : isJ g σ h x) (hx : ¬ x = 0) : ∃ n : Nat, h = n ∧ n < g.2.2.2 ∧ σ (40 + n) 0 ≠ -1 := by rcases e with ⟨-, e⟩ | ⟨e, -⟩; exact e; exact absurd e hx
theorem isJ.no {g : Nat × Nat × Nat × Nat} {σ : St} {h x : Int} (e : isJ g σ h x) (hx : x = 0) : ∀ n : Nat, h = n → n < g.2.2.2 → σ (40 + n) 0 = -1 := by rcases e with ⟨e, -⟩ | ⟨-, e⟩; omega; exact e
set_option maxHeartbeats 4000000 in
set_option maxRecDepth 100000 in
theorem c_isNumber {l : Launch} {D : va_G} {ad : Nat → Nat} {g : Nat × Nat × Nat × Nat} (hg : 3 ≤ g.1 ∧ g.1 ≤ 11 ∧ 8 ≤ g.2.1 ∧ g.2.1 ≤ 2048 ∧ 1 ≤ g.2.2.1 ∧ g.2.2.1 ≤ 24 ∧ 1 ≤ g.2.2.2 ∧ g.2.2.2 ≤ 12) (σ : St) (hF : FLG g σ) (h : Int) (hh : -2147483648 ≤ h ∧ h < 2147483648) : Kt l D ad g yX5_isNumber (Cond.code yX5_isNumber cX5_isNumber 2 (some .boolean) :: tb) 0 0 [.ref (ad 0), vi h] σ (fun v σ' => σ = σ' ∧ ∃ x : Int, v = some (vi x) ∧ isN g σ h x) := by
  refine ct_of (by decide) rfl (Nat.le_of_ble_eq_true rfl) ?_
  intro p e s m below meth c C
  change X _ _ _ _ _ _ _ _ _ _ _ _ _ _ _ _ [(0, .ref (ad 0)), (1, vi h)] _
  refine x_iload_n C dX5_isNumber_0 rfl rfl ?_
  refine x_if_lt (tgt := 29) C dX5_isNumber_1 (by decide) (by omega) (fun c_1 => ?_) (fun c_1 => ?_)
  · refine x_iconst C dX5_isNumber_29 ?_
    exact x_zret C dX5_isNumber_30 (by decide) ⟨_, rfl, rfl, _, rfl, by first | exact Or.inl ⟨rfl, n, rfl, hn, by omega⟩ | exact Or.inr ⟨rfl, fun m h1 h2 => by omega⟩ | exact Or.inr ⟨rfl, fun m h1 h2 => by rw [show m = n by omega]; omega⟩⟩
  · refine x_iload_n C dX5_isNumber_4 rfl rfl ?_
    refine x_aload_n C dX5_isNumber_5 rfl rfl ?_
    refine x_get C (Cn := RX5) (T := TX5) (N := 9) (ci := 5) 2 dX5_isNumber_6 m_w_5 m_f_RX5_44 rfl (by decide) rfl rfl ?_
    refine x_alen C 4 dX5_isNumber_9 rfl rfl ?_
    refine x_icmp_ge (tgt := 29) C dX5_isNumber_10 (by decide) (by omega) (by omega) (fun c_10 => ?_) (fun c_10 => ?_)
    · refine x_iconst C dX5_isNumber_29 ?_
      exact x_zret C dX5_isNumber_30 (by decide) ⟨_, rfl, rfl, _, rfl, by first | exact Or.inl ⟨rfl, n, rfl, hn, by omega⟩ | exact Or.inr ⟨rfl, fun m h1 h2 => by omega⟩ | exact Or.inr ⟨rfl, fun m h1 h2 => by rw [show m = n by omega]; omega⟩⟩
    · obtain ⟨n, rfl⟩ : ∃ n : Nat, h = n := ⟨h.toNat, by omega⟩
      have hn : n < g.2.2.1 := by omega
      have hfl := hF n hn
      refine x_aload_n C dX5_isNumber_13 rfl rfl ?_
      refine x_get C (Cn := RX5) (T := TX5) (N := 9) (ci := 5) 2 dX5_isNumber_14 m_w_5 m_f_RX5_44 rfl (by decide) rfl rfl ?_
      refine x_iload_n C dX5_isNumber_17 rfl rfl ?_
      refine x_aald C 4 (Cn := "LimbKernel$Numeral") dX5_isNumber_18 rfl rfl (by omega) (by omega) rfl ?_
      try rw [Int.toNat_natCast]
      refine x_get C (Cn := RX2) (T := TX2) (N := 6) (ci := 2) 0 dX5_isNumber_19 m_w_2 m_f_RX5_70 rfl (by decide) (kc_num (by omega)) rfl ?_
      refine x_if_eq (tgt := 29) C dX5_isNumber_22 (by decide) (by omega) (fun c_22 => ?_) (fun c_22 => ?_)
      · refine x_iconst C dX5_isNumber_29 ?_
        exact x_zret C dX5_isNumber_30 (by decide) ⟨_, rfl, rfl, _, rfl, by first | exact Or.inl ⟨rfl, n, rfl, hn, by omega⟩ | exact Or.inr ⟨rfl, fun m h1 h2 => by omega⟩ | exact Or.inr ⟨rfl, fun m h1 h2 => by rw [show m = n by omega]; omega⟩⟩
      · refine x_iconst C dX5_isNumber_25 ?_
        refine x_goto (tgt := 30) C dX5_isNumber_26 (by decide) ?_
        exact x_zret C dX5_isNumber_30 (by decide) ⟨_, rfl, rfl, _, rfl, by first | exact Or.inl ⟨rfl, n, rfl, hn, by omega⟩ | exact Or.inr ⟨rfl, fun m h1 h2 => by omega⟩ | exact Or.inr ⟨rfl, fun m h1 h2 => by rw [show m = n by omega]; omega⟩⟩
set_option maxHeartbeats 4000000 in
set_option maxRecDepth 100000 in
theorem c_isFinished {l : Launch} {D : va_G} {ad : Nat → Nat} {g : Nat × Nat × Nat × Nat} (hg : 3 ≤ g.1 ∧ g.1 ≤ 11 ∧ 8 ≤ g.2.1 ∧ g.2.1 ≤ 2048 ∧ 1 ≤ g.2.2.1 ∧ g.2.2.1 ≤ 24 ∧ 1 ≤ g.2.2.2 ∧ g.2.2.2 ≤ 12) (σ : St) (hF : FLG g σ) (h : Int) (hh : -2147483648 ≤ h ∧ h < 2147483648) : Kt l D ad g yX5_isFinished (Cond.code yX5_isFinished cX5_isFinished 2 (some .boolean) :: tb) 1 40 [.ref (ad 0), vi h] σ (fun v σ' => σ = σ' ∧ ∃ x : Int, v = some (vi x) ∧ isF g σ h x) := by
  refine ct_of (by decide) rfl (Nat.le_of_ble_eq_true rfl) ?_
  intro p e s m below meth c C
  change X _ _ _ _ _ _ _ _ _ _ _ _ _ _ _ _ [(0, .ref (ad 0)), (1, vi h)] _
  refine x_aload_n C dX5_isFinished_0 rfl rfl ?_
  refine x_iload_n C dX5_isFinished_1 rfl rfl ?_
  refine x_callV C (ci := 5) (nn := 1) (c_isNumber hg σ hF h hh) g_RX5_94 rfl (by decide +kernel) ⟨by first | decide | omega, by first | decide | omega⟩ rfl rfl rfl rfl rfl (Nat.le_of_ble_eq_true rfl) dX5_isFinished_2 (fun v h1 hp => ?_)
  obtain ⟨σ1, rfl, rfl, x, rfl, hx⟩ := hp
  have hxr := hx.rg
  dsimp only [Option.toList, List.cons_append, List.nil_append]
  refine x_if_eq (tgt := 24) C dX5_isFinished_5 (by decide) (by omega) (fun c_5 => ?_) (fun c_5 => ?_)
  · refine x_iconst C dX5_isFinished_24 ?_
    exact x_zret C dX5_isFinished_25 (by decide) ⟨_, rfl, rfl, _, rfl, by first | exact Or.inl ⟨rfl, n, rfl, hn, hu, by omega⟩ | exact Or.inr ⟨rfl, fun m h1 h2 h3 => by have := hx.no c_5 m h1 h2; omega⟩ | exact Or.inr ⟨rfl, fun m h1 h2 h3 => by rw [show m = n by omega] at h3; omega⟩⟩
  · obtain ⟨n, rfl, hn, hu⟩ := hx.yes c_5
    have hfl := hF n hn
    refine x_aload_n C dX5_isFinished_8 rfl rfl ?_
    refine x_get C (Cn := RX5) (T := TX5) (N := 9) (ci := 5) 2 dX5_isFinished_9 m_w_5 m_f_RX5_44 rfl (by decide) rfl rfl ?_
    refine x_iload_n C dX5_isFinished_12 rfl rfl ?_
    refine x_aald C 4 (Cn := "LimbKernel$Numeral") dX5_isFinished_13 rfl rfl (by omega) (by omega) rfl ?_
    try rw [Int.toNat_natCast]
    refine x_get C (Cn := RX2) (T := TX2) (N := 6) (ci := 2) 1 dX5_isFinished_14 m_w_2 m_f_RX5_204 rfl (by decide) (kc_num (by omega)) rfl ?_
    refine x_if_ne (tgt := 24) C dX5_isFinished_17 (by decide) (by omega) (fun c_17 => ?_) (fun c_17 => ?_)
    · refine x_iconst C dX5_isFinished_24 ?_
      exact x_zret C dX5_isFinished_25 (by decide) ⟨_, rfl, rfl, _, rfl, by first | exact Or.inl ⟨rfl, n, rfl, hn, hu, by omega⟩ | exact Or.inr ⟨rfl, fun m h1 h2 h3 => by have := hx.no c_5 m h1 h2; omega⟩ | exact Or.inr ⟨rfl, fun m h1 h2 h3 => by rw [show m = n by omega] at h3; omega⟩⟩
    · refine x_iconst C dX5_isFinished_20 ?_
      refine x_goto (tgt := 25) C dX5_isFinished_21 (by decide) ?_
      exact x_zret C dX5_isFinished_25 (by decide) ⟨_, rfl, rfl, _, rfl, by first | exact Or.inl ⟨rfl, n, rfl, hn, hu, by omega⟩ | exact Or.inr ⟨rfl, fun m h1 h2 h3 => by have := hx.no c_5 m h1 h2; omega⟩ | exact Or.inr ⟨rfl, fun m h1 h2 h3 => by rw [show m = n by omega] at h3; omega⟩⟩
set_option maxHeartbeats 4000000 in
set_option maxRecDepth 100000 in
theorem c_isZero {l : Launch} {D : va_G} {ad : Nat → Nat} {g : Nat × Nat × Nat × Nat} (hg : 3 ≤ g.1 ∧ g.1 ≤ 11 ∧ 8 ≤ g.2.1 ∧ g.2.1 ≤ 2048 ∧ 1 ≤ g.2.2.1 ∧ g.2.2.1 ≤ 24 ∧ 1 ≤ g.2.2.2 ∧ g.2.2.2 ≤ 12) (σ : St) (hL : LM g σ) (h A n : Nat) (hN : NM g σ h A n) : Kt l D ad g yX5_isZero (Cond.code yX5_isZero cX5_isZero 2 (some .boolean) :: tb) 1 40 [.ref (ad 0), vi (h : Int)] σ (fun v σ' => σ = σ' ∧ ∃ (x : Int) (r : Nat), v = some (vi x) ∧ sgP (σ 2) A n r ∧ ((x = 1 ∧ r = 0) ∨ (x = 0 ∧ 0 < r))) := by
  refine ct_of (by decide) rfl (Nat.le_of_ble_eq_true rfl) ?_
  intro p e s m below meth c C
  change X _ _ _ _ _ _ _ _ _ _ _ _ _ _ _ _ [(0, .ref (ad 0)), (1, vi (h : Int))] _
  obtain ⟨gh, g3, g2, gn⟩ := hN
  refine x_aload_n C dX5_isZero_0 rfl rfl ?_
  refine x_get C (Cn := RX5) (T := TX5) (N := 9) (ci := 5) 1 dX5_isZero_1 m_w_5 m_f_RX5_31 rfl (by decide) rfl rfl ?_
  refine x_aload_n C dX5_isZero_4 rfl rfl ?_
  refine x_get C (Cn := RX5) (T := TX5) (N := 9) (ci := 5) 2 dX5_isZero_5 m_w_5 m_f_RX5_44 rfl (by decide) rfl rfl ?_
  refine x_iload_n C dX5_isZero_8 rfl rfl ?_
  refine x_aald C 4 (Cn := "LimbKernel$Numeral") dX5_isZero_9 rfl rfl (by omega) (by omega) rfl ?_
  try rw [Int.toNat_natCast]
  refine x_get C (Cn := RX2) (T := TX2) (N := 6) (ci := 2) 3 dX5_isZero_10 m_w_2 m_f_RX5_104 rfl (by decide) (kc_num (by omega)) rfl ?_
  rw [g3]
  refine x_aload_n C dX5_isZero_13 rfl rfl ?_
  refine x_get C (Cn := RX5) (T := TX5) (N := 9) (ci := 5) 2 dX5_isZero_14 m_w_5 m_f_RX5_44 rfl (by decide) rfl rfl ?_
  refine x_iload_n C dX5_isZero_17 rfl rfl ?_
  refine x_aald C 4 (Cn := "LimbKernel$Numeral") dX5_isZero_18 rfl rfl (by omega) (by omega) rfl ?_
  try rw [Int.toNat_natCast]
  refine x_get C (Cn := RX2) (T := TX2) (N := 6) (ci := 2) 2 dX5_isZero_19 m_w_2 m_f_RX5_110 rfl (by decide) (kc_num (by omega)) rfl ?_
  rw [g2]
  refine x_callV C (ci := 4) (nn := 2) (c_significant hg σ hL A n gn) g_RX5_207 rfl (by decide +kernel) ⟨by first | decide | omega, by first | decide | omega⟩ rfl rfl rfl rfl rfl (Nat.le_of_ble_eq_true rfl) dX5_isZero_22 (fun v h1 hp => ?_)
  obtain ⟨σ1, rfl, rfl, r, rfl, hr⟩ := hp
  have hrn := hr.1
  dsimp only [Option.toList, List.cons_append, List.nil_append]
  refine x_if_ne (tgt := 32) C dX5_isZero_25 (by decide) (by omega) (fun c_25 => ?_) (fun c_25 => ?_)
  · refine x_iconst C dX5_isZero_32 ?_
    exact x_zret C dX5_isZero_33 (by decide) ⟨_, rfl, rfl, _, r, rfl, hr, by first | exact Or.inl ⟨rfl, by omega⟩ | exact Or.inr ⟨rfl, by omega⟩⟩
  · refine x_iconst C dX5_isZero_28 ?_
    refine x_goto (tgt := 33) C dX5_isZero_29 (by decide) ?_
    exact x_zret C dX5_isZero_33 (by decide) ⟨_, rfl, rfl, _, r, rfl, hr, by first | exact Or.inl ⟨rfl, by omega⟩ | exact Or.inr ⟨rfl, by omega⟩⟩
set_option maxHeartbeats 4000000 in
set_option maxRecDepth 100000 in
theorem c_isJob {l : Launch} {D : va_G} {ad : Nat → Nat} {g : Nat × Nat × Nat × Nat} (hg : 3 ≤ g.1 ∧ g.1 ≤ 11 ∧ 8 ≤ g.2.1 ∧ g.2.1 ≤ 2048 ∧ 1 ≤ g.2.2.1 ∧ g.2.2.1 ≤ 24 ∧ 1 ≤ g.2.2.2 ∧ g.2.2.2 ≤ 12) (σ : St) (hS : STT g σ) (j : Int) (hh : -2147483648 ≤ j ∧ j < 2147483648) : Kt l D ad g yX5_isJob (Cond.code yX5_isJob cX5_isJob 2 (some .boolean) :: tb) 0 0 [.ref (ad 0), vi j] σ (fun v σ' => σ = σ' ∧ ∃ x : Int, v = some (vi x) ∧ isJ g σ j x) := by
  refine ct_of (by decide) rfl (Nat.le_of_ble_eq_true rfl) ?_
  intro p e s m below meth c C
  change X _ _ _ _ _ _ _ _ _ _ _ _ _ _ _ _ [(0, .ref (ad 0)), (1, vi j)] _
  refine x_iload_n C dX5_isJob_0 rfl rfl ?_
  refine x_if_lt (tgt := 30) C dX5_isJob_1 (by decide) (by omega) (fun c_1 => ?_) (fun c_1 => ?_)
  · refine x_iconst C dX5_isJob_30 ?_
    exact x_zret C dX5_isJob_31 (by decide) ⟨_, rfl, rfl, _, rfl, by first | exact Or.inl ⟨rfl, n, rfl, hn, by omega⟩ | exact Or.inr ⟨rfl, fun m h1 h2 => by omega⟩ | exact Or.inr ⟨rfl, fun m h1 h2 => by rw [show m = n by omega]; omega⟩⟩
  · refine x_iload_n C dX5_isJob_4 rfl rfl ?_
    refine x_aload_n C dX5_isJob_5 rfl rfl ?_
    refine x_get C (Cn := RX5) (T := TX5) (N := 9) (ci := 5) 3 dX5_isJob_6 m_w_5 m_f_RX5_37 rfl (by decide) rfl rfl ?_
    refine x_alen C 3 dX5_isJob_9 rfl rfl ?_
    refine x_icmp_ge (tgt := 30) C dX5_isJob_10 (by decide) (by omega) (by omega) (fun c_10 => ?_) (fun c_10 => ?_)
    · refine x_iconst C dX5_isJob_30 ?_
      exact x_zret C dX5_isJob_31 (by decide) ⟨_, rfl, rfl, _, rfl, by first | exact Or.inl ⟨rfl, n, rfl, hn, by omega⟩ | exact Or.inr ⟨rfl, fun m h1 h2 => by omega⟩ | exact Or.inr ⟨rfl, fun m h1 h2 => by rw [show m = n by omega]; omega⟩⟩
    · obtain ⟨n, rfl⟩ : ∃ n : Nat, j = n := ⟨j.toNat, by omega⟩
      have hn : n < g.2.2.2 := by omega
      have hst := hS n hn
      refine x_aload_n C dX5_isJob_13 rfl rfl ?_
      refine x_get C (Cn := RX5) (T := TX5) (N := 9) (ci := 5) 3 dX5_isJob_14 m_w_5 m_f_RX5_37 rfl (by decide) rfl rfl ?_
      refine x_iload_n C dX5_isJob_17 rfl rfl ?_
      refine x_aald C 3 (Cn := "LimbKernel$Job") dX5_isJob_18 rfl rfl (by omega) (by omega) rfl ?_
      try rw [Int.toNat_natCast]
      refine x_get C (Cn := RX0) (T := TX0) (N := 11) (ci := 0) 0 dX5_isJob_19 m_w_0 m_f_RX5_141 rfl (by decide) (kc_job (by omega) (by omega)) rfl ?_
      refine x_iconst C dX5_isJob_22 ?_
      refine x_icmp_eq (tgt := 30) C dX5_isJob_23 (by decide) (by omega) (by omega) (fun c_23 => ?_) (fun c_23 => ?_)
      · refine x_iconst C dX5_isJob_30 ?_
        exact x_zret C dX5_isJob_31 (by decide) ⟨_, rfl, rfl, _, rfl, by first | exact Or.inl ⟨rfl, n, rfl, hn, by omega⟩ | exact Or.inr ⟨rfl, fun m h1 h2 => by omega⟩ | exact Or.inr ⟨rfl, fun m h1 h2 => by rw [show m = n by omega]; omega⟩⟩
      · refine x_iconst C dX5_isJob_26 ?_
        refine x_goto (tgt := 31) C dX5_isJob_27 (by decide) ?_
        exact x_zret C dX5_isJob_31 (by decide) ⟨_, rfl, rfl, _, rfl, by first | exact Or.inl ⟨rfl, n, rfl, hn, by omega⟩ | exact Or.inr ⟨rfl, fun m h1 h2 => by omega⟩ | exact Or.inr ⟨rfl, fun m h1 h2 => by rw [show m = n by omega]; omega⟩⟩
/-- the least index below n at which p holds not -/
def lst (p : Nat → Prop) (n : Nat) (r : Int) : Prop := (r = -1 ∧ ∀ k, k < n → ¬ p k) ∨ (∃ k : Nat, r = k ∧ k < n ∧ p k ∧ ∀ i, i < k → ¬ p i)
set_option maxHeartbeats 4000000 in
set_option maxRecDepth 100000 in
theorem lp_lfh {p : Program} {l : Launch} {e : Env} {R : Room} {s : State} {m : MethodId} {args : Array Value} {below : List Frame} {meth : Method} {c : Code} {D : va_G} {ad : Nat → Nat} {g : Nat × Nat × Nat × Nat} {Q : State → Prop} (C : Fx p s m args meth c D ad cX5_leastFreeHandle 2 (some .int) yX5_leastFreeHandle.cls tb) (hg : 3 ≤ g.1 ∧ g.1 ≤ 11 ∧ 8 ≤ g.2.1 ∧ g.2.1 ≤ 2048 ∧ 1 ≤ g.2.2.1 ∧ g.2.2.1 ≤ 24 ∧ 1 ≤ g.2.2.2 ∧ g.2.2.2 ≤ 12) (σ : St) (hF : FLG g σ) (K : ∀ (r : Int) pc lv, (pc = 38 ∨ pc = 46) → lst (fun k => σ (10 + k) 0 = 0) g.2.2.1 r → X p l e R s m args below meth c D ad 2 Q (kc D ad g σ) pc lv [vi r]) (n i : Nat) (hn : g.2.2.1 - i < n) (hi : i ≤ g.2.2.1) (hb : ∀ k, k < i → ¬ σ (10 + k) 0 = 0) : X p l e R s m args below meth c D ad 2 Q (kc D ad g σ) 16 [(1, vi (i : Int)), (0, .ref (ad 0))] [] := by
  induction n generalizing i with
  | zero => omega
  | succ n ih =>
  refine x_iload_n C dX5_leastFreeHandle_16 rfl rfl ?_
  refine x_aload_n C dX5_leastFreeHandle_17 rfl rfl ?_
  refine x_get C (Cn := RX5) (T := TX5) (N := 9) (ci := 5) 2 dX5_leastFreeHandle_18 m_w_5 m_f_RX5_44 rfl (by decide) rfl rfl ?_
  refine x_alen C 4 dX5_leastFreeHandle_21 rfl rfl ?_
  refine x_icmp_ge (tgt := 45) C dX5_leastFreeHandle_22 (by decide) (by omega) (by omega) (fun c_22 => ?_) (fun c_22 => ?_)
  · refine x_iconst C dX5_leastFreeHandle_45 ?_
    exact K _ _ _ (Or.inr rfl) (Or.inl ⟨rfl, fun k hk => hb k (by omega)⟩)
  · have hfl := hF i (by omega)
    refine x_aload_n C dX5_leastFreeHandle_25 rfl rfl ?_
    refine x_get C (Cn := RX5) (T := TX5) (N := 9) (ci := 5) 2 dX5_leastFreeHandle_26 m_w_5 m_f_RX5_44 rfl (by decide) rfl rfl ?_
    refine x_iload_n C dX5_leastFreeHandle_29 rfl rfl ?_
    refine x_aald C 4 (Cn := "LimbKernel$Numeral") dX5_leastFreeHandle_30 rfl rfl (by omega) (by omega) rfl ?_
    try rw [Int.toNat_natCast]
    refine x_get C (Cn := RX2) (T := TX2) (N := 6) (ci := 2) 0 dX5_leastFreeHandle_31 m_w_2 m_f_RX5_70 rfl (by decide) (kc_num (by omega)) rfl ?_
    refine x_if_ne (tgt := 39) C dX5_leastFreeHandle_34 (by decide) (by omega) (fun c_34 => ?_) (fun c_34 => ?_)
    · refine x_iinc C (lv' := [(1, _), (0, _)]) dX5_leastFreeHandle_39 rfl (by decide) rfl ?_
      refine x_goto (tgt := 16) C dX5_leastFreeHandle_42 (by decide) ?_
      rw [show (i : Int) + 1 = ((i + 1 : Nat) : Int) by omega]
      exact ih (i + 1) (by omega) (by omega) (fun k hk => if q : k < i then hb k q else by rw [show k = i by omega]; exact c_34)
    · refine x_iload_n C dX5_leastFreeHandle_37 rfl rfl ?_
      exact K _ _ _ (Or.inl rfl) (Or.inr ⟨i, rfl, by omega, c_34, hb⟩)
set_option maxHeartbeats 4000000 in
set_option maxRecDepth 100000 in
theorem c_leastFreeHandle {l : Launch} {D : va_G} {ad : Nat → Nat} {g : Nat × Nat × Nat × Nat} (hg : 3 ≤ g.1 ∧ g.1 ≤ 11 ∧ 8 ≤ g.2.1 ∧ g.2.1 ≤ 2048 ∧ 1 ≤ g.2.2.1 ∧ g.2.2.1 ≤ 24 ∧ 1 ≤ g.2.2.2 ∧ g.2.2.2 ≤ 12) (σ : St) (hF : FLG g σ) (hU : 0 ≤ σ 0 6 ∧ σ 0 6 ≤ g.2.2.1) (hall : σ 0 6 = g.2.2.1 → ∀ k, k < g.2.2.1 → ¬ σ (10 + k) 0 = 0) : Kt l D ad g yX5_leastFreeHandle (Cond.code yX5_leastFreeHandle cX5_leastFreeHandle 2 (some .int) :: tb) 0 0 [.ref (ad 0)] σ (fun v σ' => σ = σ' ∧ ∃ r : Int, v = some (vi r) ∧ lst (fun k => σ (10 + k) 0 = 0) g.2.2.1 r) := by
  refine ct_of (by decide) rfl (Nat.le_of_ble_eq_true rfl) ?_
  intro p e s m below meth c C
  change X _ _ _ _ _ _ _ _ _ _ _ _ _ _ _ _ [(0, .ref (ad 0))] _
  refine x_aload_n C dX5_leastFreeHandle_0 rfl rfl ?_
  refine x_get C (Cn := RX5) (T := TX5) (N := 9) (ci := 5) 6 dX5_leastFreeHandle_1 m_w_5 m_f_RX5_63 rfl (by decide) rfl rfl ?_
  refine x_aload_n C dX5_leastFreeHandle_4 rfl rfl ?_
  refine x_get C (Cn := RX5) (T := TX5) (N := 9) (ci := 5) 2 dX5_leastFreeHandle_5 m_w_5 m_f_RX5_44 rfl (by decide) rfl rfl ?_
  refine x_alen C 4 dX5_leastFreeHandle_8 rfl rfl ?_
  refine x_icmp_lt (tgt := 14) C dX5_leastFreeHandle_9 (by decide) (by omega) (by omega) (fun c_9 => ?_) (fun c_9 => ?_)
  · refine x_iconst C dX5_leastFreeHandle_14 ?_
    refine x_istore_n C (lv' := [(1, _), (0, _)]) dX5_leastFreeHandle_15 rfl (by decide) rfl ?_
    refine lp_lfh C hg σ hF ?_ (g.2.2.1 + 1) 0 (by omega) (by omega) (fun k hk => by omega)
    intro r pc lv hpc hr
    rcases hpc with rfl | rfl
    · exact x_iret C dX5_leastFreeHandle_38 ⟨_, rfl, rfl, r, rfl, hr⟩
    · exact x_iret C dX5_leastFreeHandle_46 ⟨_, rfl, rfl, r, rfl, hr⟩
  · refine x_iconst C dX5_leastFreeHandle_12 ?_
    exact x_iret C dX5_leastFreeHandle_13 ⟨_, rfl, rfl, _, rfl, Or.inl ⟨rfl, hall (by omega)⟩⟩
set_option maxHeartbeats 4000000 in
set_option maxRecDepth 100000 in
theorem lp_lfj {p : Program} {l : Launch} {e : Env} {R : Room} {s : State} {m : MethodId} {args : Array Value} {below : List Frame} {meth : Method} {c : Code} {D : va_G} {ad : Nat → Nat} {g : Nat × Nat × Nat × Nat} {Q : State → Prop} (C : Fx p s m args meth c D ad cX5_leastFreeJob 2 (some .int) yX5_leastFreeJob.cls tb) (hg : 3 ≤ g.1 ∧ g.1 ≤ 11 ∧ 8 ≤ g.2.1 ∧ g.2.1 ≤ 2048 ∧ 1 ≤ g.2.2.1 ∧ g.2.2.1 ≤ 24 ∧ 1 ≤ g.2.2.2 ∧ g.2.2.2 ≤ 12) (σ : St) (hS : STT g σ) (K : ∀ (r : Int) pc lv, (pc = 25 ∨ pc = 33) → lst (fun k => σ (40 + k) 0 = -1) g.2.2.2 r → X p l e R s m args below meth c D ad 2 Q (kc D ad g σ) pc lv [vi r]) (n i : Nat) (hn : g.2.2.2 - i < n) (hi : i ≤ g.2.2.2) (hb : ∀ k, k < i → ¬ σ (40 + k) 0 = -1) : X p l e R s m args below meth c D ad 2 Q (kc D ad g σ) 2 [(1, vi (i : Int)), (0, .ref (ad 0))] [] := by
  induction n generalizing i with
  | zero => omega
  | succ n ih =>
  refine x_iload_n C dX5_leastFreeJob_2 rfl rfl ?_
  refine x_aload_n C dX5_leastFreeJob_3 rfl rfl ?_
  refine x_get C (Cn := RX5) (T := TX5) (N := 9) (ci := 5) 3 dX5_leastFreeJob_4 m_w_5 m_f_RX5_37 rfl (by decide) rfl rfl ?_
  refine x_alen C 3 dX5_leastFreeJob_7 rfl rfl ?_
  refine x_icmp_ge (tgt := 32) C dX5_leastFreeJob_8 (by decide) (by omega) (by omega) (fun c_8 => ?_) (fun c_8 => ?_)
  · refine x_iconst C dX5_leastFreeJob_32 ?_
    exact K _ _ _ (Or.inr rfl) (Or.inl ⟨rfl, fun k hk => hb k (by omega)⟩)
  · have hst := hS i (by omega)
    refine x_aload_n C dX5_leastFreeJob_11 rfl rfl ?_
    refine x_get C (Cn := RX5) (T := TX5) (N := 9) (ci := 5) 3 dX5_leastFreeJob_12 m_w_5 m_f_RX5_37 rfl (by decide) rfl rfl ?_
    refine x_iload_n C dX5_leastFreeJob_15 rfl rfl ?_
    refine x_aald C 3 (Cn := "LimbKernel$Job") dX5_leastFreeJob_16 rfl rfl (by omega) (by omega) rfl ?_
    try rw [Int.toNat_natCast]
    refine x_get C (Cn := RX0) (T := TX0) (N := 11) (ci := 0) 0 dX5_leastFreeJob_17 m_w_0 m_f_RX5_141 rfl (by decide) (kc_job (by omega) (by omega)) rfl ?_
    refine x_iconst C dX5_leastFreeJob_20 ?_
    refine x_icmp_ne (tgt := 26) C dX5_leastFreeJob_21 (by decide) (by omega) (by omega) (fun c_21 => ?_) (fun c_21 => ?_)
    · refine x_iinc C (lv' := [(1, _), (0, _)]) dX5_leastFreeJob_26 rfl (by decide) rfl ?_
      refine x_goto (tgt := 2) C dX5_leastFreeJob_29 (by decide) ?_
      rw [show (i : Int) + 1 = ((i + 1 : Nat) : Int) by omega]
      exact ih (i + 1) (by omega) (by omega) (fun k hk => if q : k < i then hb k q else by rw [show k = i by omega]; exact c_21)
    · refine x_iload_n C dX5_leastFreeJob_24 rfl rfl ?_
      exact K _ _ _ (Or.inl rfl) (Or.inr ⟨i, rfl, by omega, c_21, hb⟩)
set_option maxHeartbeats 4000000 in
set_option maxRecDepth 100000 in
theorem c_leastFreeJob {l : Launch} {D : va_G} {ad : Nat → Nat} {g : Nat × Nat × Nat × Nat} (hg : 3 ≤ g.1 ∧ g.1 ≤ 11 ∧ 8 ≤ g.2.1 ∧ g.2.1 ≤ 2048 ∧ 1 ≤ g.2.2.1 ∧ g.2.2.1 ≤ 24 ∧ 1 ≤ g.2.2.2 ∧ g.2.2.2 ≤ 12) (σ : St) (hS : STT g σ) : Kt l D ad g yX5_leastFreeJob (Cond.code yX5_leastFreeJob cX5_leastFreeJob 2 (some .int) :: tb) 0 0 [.ref (ad 0)] σ (fun v σ' => σ = σ' ∧ ∃ r : Int, v = some (vi r) ∧ lst (fun k => σ (40 + k) 0 = -1) g.2.2.2 r) := by
  refine ct_of (by decide) rfl (Nat.le_of_ble_eq_true rfl) ?_
  intro p e s m below meth c C
  change X _ _ _ _ _ _ _ _ _ _ _ _ _ _ _ _ [(0, .ref (ad 0))] _
  refine x_iconst C dX5_leastFreeJob_0 ?_
  refine x_istore_n C (lv' := [(1, _), (0, _)]) dX5_leastFreeJob_1 rfl (by decide) rfl ?_
  refine lp_lfj C hg σ hS ?_ (g.2.2.2 + 1) 0 (by omega) (by omega) (fun k hk => by omega)
  intro r pc lv hpc hr
  rcases hpc with rfl | rfl
  · exact x_iret C dX5_leastFreeJob_25 ⟨_, rfl, rfl, r, rfl, hr⟩
  · exact x_iret C dX5_leastFreeJob_33 ⟨_, rfl, rfl, r, rfl, hr⟩
