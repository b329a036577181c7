/-! OCCUPYING, VACATING, PINS -/
def OCC (σ σ' : St) (h n o A : Nat) : Prop := σ' (10 + h) 0 = 1 ∧ σ' (10 + h) 1 = 0 ∧ σ' (10 + h) 2 = n ∧ σ' (10 + h) 3 = A ∧ σ' (10 + h) 4 = o ∧ σ' (10 + h) 5 = 0 ∧ σ' 2 = fl (σ 2) A (A + n) 0 ∧ σ' 0 = zup (σ 0) 6 (σ 0 6 + 1) ∧ ∀ q, q ≠ 0 → q ≠ 2 → q ≠ 10 + h → σ' q = σ q
def VAC (g : Nat × Nat × Nat × Nat) (σ σ' : St) (h A o : Nat) : Prop := σ' 4 = jnF g.1 12 (σ 4) A o ∧ CN g σ' ∧ σ' (10 + h) = zup (σ (10 + h)) 0 0 ∧ σ' 0 = zup (σ 0) 6 (σ 0 6 - 1) ∧ ∀ q, q ≠ 0 → q ≠ 3 → q ≠ 4 → q ≠ 10 + h → σ' q = σ q
def pinF (σ : St) (h : Nat) (z : Int) : St := up σ (10 + h) 5 (σ (10 + h) 5 + z)
def cpP (σ σ' : St) (op : Int) (a b m : Nat) (z : Int) : Prop := (op = 3 ∧ σ' = pinF (pinF (pinF σ a z) b z) m z) ∨ (op ≠ 3 ∧ σ' = pinF (pinF σ a z) b z)
def GUR (g : Nat × Nat × Nat × Nat) (σ σ' : St) (j : Nat) : Prop := (σ (40 + j) 8 = -1 ∧ σ = σ') ∨ (∃ r o : Nat, σ (40 + j) 8 = r ∧ σ (40 + j) 9 = o ∧ σ' 4 = jnF g.1 12 (σ 4) r o ∧ CN g σ' ∧ σ' (40 + j) = zup (σ (40 + j)) 8 (-1) ∧ ∀ q, q ≠ 3 → q ≠ 4 → q ≠ 40 + j → σ' q = σ q)
/-- a block that is not free: what taking it back asks -/
def BLK (g : Nat × Nat × Nat × Nat) (σ : St) (A o : Nat) : Prop := o ≤ g.1 ∧ 2 ^ o ∣ A ∧ A + 2 ^ o ≤ 2 ^ g.1 ∧ ∀ b, A ≤ b → b < A + 2 ^ o → σ 4 b = -1
theorem pinF_n {σ : St} {h q : Nat} {z : Int} (hq : q ≠ 10 + h) : pinF σ h z q = σ q := up_n hq
set_option maxHeartbeats 4000000 in
set_option maxRecDepth 100000 in
theorem c_occupy {l : Launch} {D : va_G} {ad : Nat → Nat} {g : Nat × Nat × Nat × Nat} (hg : 3 ≤ g.1 ∧ g.1 ≤ 11 ∧ 8 ≤ g.2.1 ∧ g.2.1 ≤ 2048 ∧ 1 ≤ g.2.2.1 ∧ g.2.2.1 ≤ 24 ∧ 1 ≤ g.2.2.2 ∧ g.2.2.2 ≤ 12) (σ : St) (h n o A : Nat) (hh : h < g.2.2.1) (hA : A + n ≤ g.2.1) : Kt l D ad g yX5_occupy (Cond.code yX5_occupy cX5_occupy 6 none :: tb) 2 80 [.ref (ad 0), vi (h : Int), vi (n : Int), vi (o : Int), vi (A : Int)] σ (fun v σ' => v = none ∧ OCC σ σ' h n o A) := by
  refine ct_of (by decide) rfl (Nat.le_of_ble_eq_true rfl) ?_
  intro p e s m below meth c C
  change X _ _ _ _ _ _ _ _ _ _ _ _ _ _ _ _ [(0, .ref (ad 0)), (1, vi (h : Int)), (2, vi (n : Int)), (3, vi (o : Int)), (4, vi (A : Int))] _
  refine x_aload_n C dX5_occupy_0 rfl rfl ?_
  refine x_get C (Cn := RX5) (T := TX5) (N := 9) (ci := 5) 2 dX5_occupy_1 m_w_5 m_f_RX5_44 rfl (by decide) rfl rfl ?_
  refine x_iload_n C dX5_occupy_4 rfl rfl ?_
  refine x_aald C 4 (Cn := "LimbKernel$Numeral") dX5_occupy_5 rfl rfl (by omega) (by omega) rfl ?_
  try rw [Int.toNat_natCast]
  refine x_astore C (lv' := [(5, _), (0, _), (1, _), (2, _), (3, _), (4, _)]) dX5_occupy_6 (by decide) rfl ?_
  refine x_aload C dX5_occupy_8 rfl ?_
  refine x_iconst C dX5_occupy_10 ?_
  refine k_putN C (ty := .boolean) 0 (by decide) dX5_occupy_11 m_f_RX5_70 rfl (by decide +kernel) (by decide) (by decide) (by omega) ?_
  refine x_aload C dX5_occupy_14 rfl ?_
  refine x_iconst C dX5_occupy_16 ?_
  refine k_putN C (ty := .boolean) 1 (by decide) dX5_occupy_17 m_f_RX5_204 rfl (by decide +kernel) (by decide) (by decide) (by omega) ?_
  refine x_aload C dX5_occupy_20 rfl ?_
  refine x_iload_n C dX5_occupy_22 rfl rfl ?_
  refine k_putN C (ty := .int) 2 (by decide) dX5_occupy_23 m_f_RX5_110 rfl (by decide +kernel) rfl rfl (by omega) ?_
  refine x_aload C dX5_occupy_26 rfl ?_
  refine x_iload_n C dX5_occupy_28 rfl rfl ?_
  refine k_putN C (ty := .int) 4 (by decide) dX5_occupy_29 m_f_RX5_187 rfl (by decide +kernel) rfl rfl (by omega) ?_
  refine x_aload C dX5_occupy_32 rfl ?_
  refine x_iload C dX5_occupy_34 rfl ?_
  refine k_putN C (ty := .int) 3 (by decide) dX5_occupy_36 m_f_RX5_104 rfl (by decide +kernel) rfl rfl (by omega) ?_
  refine x_aload C dX5_occupy_39 rfl ?_
  refine x_iconst C dX5_occupy_41 ?_
  refine k_putN C (ty := .int) 5 (by decide) dX5_occupy_42 m_f_RX5_98 rfl (by decide +kernel) rfl rfl (by omega) ?_
  refine x_aload_n C dX5_occupy_45 rfl rfl ?_
  refine x_get C (Cn := RX5) (T := TX5) (N := 9) (ci := 5) 0 dX5_occupy_46 m_w_5 m_f_RX5_18 rfl (by decide) rfl rfl ?_
  refine x_get C (Cn := RX1) (T := TX1) (N := 4) (ci := 1) 1 dX5_occupy_49 m_w_1 m_f_RX5_24 rfl (by decide) rfl rfl ?_
  refine x_iload C dX5_occupy_52 rfl ?_
  refine x_iload C dX5_occupy_54 rfl ?_
  refine x_iload_n C dX5_occupy_56 rfl rfl ?_
  refine x_iadd C dX5_occupy_57 ?_
  rw [show (A : Int) + (n : Int) = ((A + n : Nat) : Int) by omega]
  refine x_iconst C dX5_occupy_58 ?_
  refine x_callS C (nn := 4) (c_fillR hg _ 2 g.2.1 A (A + n) (by omega) (by omega) (fun _ => rfl) 0) g_RX5_210 rfl (by decide +kernel) ⟨by first | decide | omega, by first | decide | omega⟩ rfl rfl (Nat.le_of_ble_eq_true rfl) dX5_occupy_59 (fun v h1 hp => ?_)
  obtain ⟨σ1, rfl, rfl, rfl⟩ := hp
  refine x_aload_n C dX5_occupy_62 rfl rfl ?_
  refine x_dup C dX5_occupy_63 rfl ?_
  refine x_get C (Cn := RX5) (T := TX5) (N := 9) (ci := 5) 6 dX5_occupy_64 m_w_5 m_f_RX5_63 rfl (by decide) rfl rfl ?_
  refine x_iconst C dX5_occupy_67 ?_
  refine x_iadd C dX5_occupy_68 ?_
  refine k_putS C (Cn := RX5) (T := TX5) (N := 9) (ci := 5) (ty := .int) 6 dX5_occupy_69 m_w_5 m_f_RX5_63 rfl (by decide) tyX5 tyX5_ok nmX5 rfl (by decide +kernel) rfl rfl rfl (Nat.le_of_ble_eq_true rfl) rfl ?_
  exact x_vret C dX5_occupy_72 ⟨_, rfl, rfl, by
      have n0 : (10 + h) ≠ 0 := by omega
      have n2 : (10 + h) ≠ 2 := by omega
      have m2 : (2 : Nat) ≠ 10 + h := by omega
      have m0 : (0 : Nat) ≠ 10 + h := by omega
      refine ⟨?_, ?_, ?_, ?_, ?_, ?_, ?_, ?_, ?_⟩
      · rw [up_n n0, upr_n n2]; simp [up, zup]
      · rw [up_n n0, upr_n n2]; simp [up, zup]
      · rw [up_n n0, upr_n n2]; simp [up, zup]
      · rw [up_n n0, upr_n n2]; simp [up, zup]
      · rw [up_n n0, upr_n n2]; simp [up, zup]
      · rw [up_n n0, upr_n n2]; simp [up, zup]
      · rw [up_n (by decide), upr_s, up_n m2, up_n m2, up_n m2, up_n m2, up_n m2, up_n m2]
      · rw [up_s, upr_n (by decide), up_n m0, up_n m0, up_n m0, up_n m0, up_n m0, up_n m0]
      · intro q h0 h2 h1
        rw [up_n h0, upr_n h2, up_n h1, up_n h1, up_n h1, up_n h1, up_n h1, up_n h1]⟩
set_option maxHeartbeats 4000000 in
set_option maxRecDepth 100000 in
theorem c_vacate {l : Launch} {D : va_G} {ad : Nat → Nat} {g : Nat × Nat × Nat × Nat} (hg : 3 ≤ g.1 ∧ g.1 ≤ 11 ∧ 8 ≤ g.2.1 ∧ g.2.1 ≤ 2048 ∧ 1 ≤ g.2.2.1 ∧ g.2.2.1 ≤ 24 ∧ 1 ≤ g.2.2.2 ∧ g.2.2.2 ≤ 12) (hnp : g.2.1 = 2 ^ g.1) (σ : St) (hM : MI g.1 (σ 4)) (hC : CN g σ) (h A o : Nat) (hh : h < g.2.2.1) (hA : σ (10 + h) 3 = A) (ho : σ (10 + h) 4 = o) (hB : BLK g σ A o) : Kt l D ad g yX5_vacate (Cond.code yX5_vacate cX5_vacate 2 none :: tb) 2 80 [.ref (ad 0), vi (h : Int)] σ (fun v σ' => v = none ∧ VAC g σ σ' h A o) := by
  refine ct_of (by decide) rfl (Nat.le_of_ble_eq_true rfl) ?_
  intro p e s m below meth c C
  change X _ _ _ _ _ _ _ _ _ _ _ _ _ _ _ _ [(0, .ref (ad 0)), (1, vi (h : Int))] _
  refine x_aload_n C dX5_vacate_0 rfl rfl ?_
  refine x_get C (Cn := RX5) (T := TX5) (N := 9) (ci := 5) 0 dX5_vacate_1 m_w_5 m_f_RX5_18 rfl (by decide) rfl rfl ?_
  refine x_aload_n C dX5_vacate_4 rfl rfl ?_
  refine x_get C (Cn := RX5) (T := TX5) (N := 9) (ci := 5) 2 dX5_vacate_5 m_w_5 m_f_RX5_44 rfl (by decide) rfl rfl ?_
  refine x_iload_n C dX5_vacate_8 rfl rfl ?_
  refine x_aald C 4 (Cn := "LimbKernel$Numeral") dX5_vacate_9 rfl rfl (by omega) (by omega) rfl ?_
  try rw [Int.toNat_natCast]
  refine x_get C (Cn := RX2) (T := TX2) (N := 6) (ci := 2) 3 dX5_vacate_10 m_w_2 m_f_RX5_104 rfl (by decide) (kc_num (by omega)) rfl ?_
  rw [hA]
  refine x_aload_n C dX5_vacate_13 rfl rfl ?_
  refine x_get C (Cn := RX5) (T := TX5) (N := 9) (ci := 5) 2 dX5_vacate_14 m_w_5 m_f_RX5_44 rfl (by decide) rfl rfl ?_
  refine x_iload_n C dX5_vacate_17 rfl rfl ?_
  refine x_aald C 4 (Cn := "LimbKernel$Numeral") dX5_vacate_18 rfl rfl (by omega) (by omega) rfl ?_
  try rw [Int.toNat_natCast]
  refine x_get C (Cn := RX2) (T := TX2) (N := 6) (ci := 2) 4 dX5_vacate_19 m_w_2 m_f_RX5_187 rfl (by decide) (kc_num (by omega)) rfl ?_
  rw [ho]
  refine x_callV C (ci := 1) (nn := 2) (c_takeBack hg hnp σ hM hC A o hB.1 hB.2.1 hB.2.2.1 hB.2.2.2) g_RX5_216 rfl (by decide +kernel) ⟨by first | decide | omega, by first | decide | omega⟩ rfl rfl rfl rfl rfl (Nat.le_of_ble_eq_true rfl) dX5_vacate_22 (fun v h1 hp => ?_)
  obtain ⟨σ1, rfl, rfl, e4, eC, er⟩ := hp
  refine x_aload_n C dX5_vacate_25 rfl rfl ?_
  refine x_get C (Cn := RX5) (T := TX5) (N := 9) (ci := 5) 2 dX5_vacate_26 m_w_5 m_f_RX5_44 rfl (by decide) rfl rfl ?_
  refine x_iload_n C dX5_vacate_29 rfl rfl ?_
  refine x_aald C 4 (Cn := "LimbKernel$Numeral") dX5_vacate_30 rfl rfl (by omega) (by omega) rfl ?_
  try rw [Int.toNat_natCast]
  refine x_iconst C dX5_vacate_31 ?_
  refine k_putN C (ty := .boolean) 0 (by decide) dX5_vacate_32 m_f_RX5_70 rfl (by decide +kernel) (by decide) (by decide) (by omega) ?_
  refine x_aload_n C dX5_vacate_35 rfl rfl ?_
  refine x_dup C dX5_vacate_36 rfl ?_
  refine x_get C (Cn := RX5) (T := TX5) (N := 9) (ci := 5) 6 dX5_vacate_37 m_w_5 m_f_RX5_63 rfl (by decide) rfl rfl ?_
  refine x_iconst C dX5_vacate_40 ?_
  refine x_isub C dX5_vacate_41 ?_
  refine k_putS C (Cn := RX5) (T := TX5) (N := 9) (ci := 5) (ty := .int) 6 dX5_vacate_42 m_w_5 m_f_RX5_63 rfl (by decide) tyX5 tyX5_ok nmX5 rfl (by decide +kernel) rfl rfl rfl (Nat.le_of_ble_eq_true rfl) rfl ?_
  exact x_vret C dX5_vacate_45 ⟨_, rfl, rfl, by
      have n0 : (10 + h) ≠ 0 := by omega
      have m0 : (0 : Nat) ≠ 10 + h := by omega
      refine ⟨?_, ?_, ?_, ?_, ?_⟩
      · rw [up_n (by decide), up_n (by omega)]; exact e4
      · intro k hk; rw [up_n (show 3 ≠ 0 by decide), up_n (show 4 ≠ 0 by decide), up_n (show 3 ≠ 10 + h by omega), up_n (show 4 ≠ 10 + h by omega)]; exact eC k hk
      · rw [up_n n0, up_s, er _ (by omega) (by omega)]
      · rw [up_s, up_n m0, er 0 (by decide) (by decide)]
      · intro q h0 h3 h4 h1; rw [up_n h0, up_n h1]; exact er q h3 h4⟩
set_option maxHeartbeats 4000000 in
set_option maxRecDepth 100000 in
theorem c_changePins {l : Launch} {D : va_G} {ad : Nat → Nat} {g : Nat × Nat × Nat × Nat} (hg : 3 ≤ g.1 ∧ g.1 ≤ 11 ∧ 8 ≤ g.2.1 ∧ g.2.1 ≤ 2048 ∧ 1 ≤ g.2.2.1 ∧ g.2.2.1 ≤ 24 ∧ 1 ≤ g.2.2.2 ∧ g.2.2.2 ≤ 12) (σ : St) (j : Nat) (hj : j < g.2.2.2) (a b m0 : Nat) (z : Int) (ha : a < g.2.2.1) (hb : b < g.2.2.1) (ea : σ (40 + j) 2 = a) (eb : σ (40 + j) 3 = b) (ho : 0 ≤ σ (40 + j) 1 ∧ σ (40 + j) 1 ≤ 3) (em : σ (40 + j) 1 = 3 → m0 < g.2.2.1 ∧ σ (40 + j) 4 = m0) : Kt l D ad g yX5_changePins (Cond.code yX5_changePins cX5_changePins 3 none :: tb) 0 0 [.ref (ad 0), .ref (ad (40 + j)), vi z] σ (fun v σ' => v = none ∧ cpP σ σ' (σ (40 + j) 1) a b m0 z) := by
  refine ct_of (by decide) rfl (Nat.le_of_ble_eq_true rfl) ?_
  intro p e s m below meth c C
  change X _ _ _ _ _ _ _ _ _ _ _ _ _ _ _ _ [(0, .ref (ad 0)), (1, .ref (ad (40 + j))), (2, vi z)] _
  refine x_aload_n C dX5_changePins_0 rfl rfl ?_
  refine x_get C (Cn := RX5) (T := TX5) (N := 9) (ci := 5) 2 dX5_changePins_1 m_w_5 m_f_RX5_44 rfl (by decide) rfl rfl ?_
  refine x_aload_n C dX5_changePins_4 rfl rfl ?_
  refine x_get C (Cn := RX0) (T := TX0) (N := 11) (ci := 0) 2 dX5_changePins_5 m_w_0 m_f_RX5_128 rfl (by decide) (kc_job (by omega) (by omega)) rfl ?_
  rw [ea]
  refine x_aald C 4 (Cn := "LimbKernel$Numeral") dX5_changePins_8 rfl rfl (by omega) (by omega) rfl ?_
  try rw [Int.toNat_natCast]
  refine x_dup C dX5_changePins_9 rfl ?_
  refine x_get C (Cn := RX2) (T := TX2) (N := 6) (ci := 2) 5 dX5_changePins_10 m_w_2 m_f_RX5_98 rfl (by decide) (kc_num (by omega)) rfl ?_
  refine x_iload_n C dX5_changePins_13 rfl rfl ?_
  refine x_iadd C dX5_changePins_14 ?_
  refine k_putN C (ty := .int) 5 (by decide) dX5_changePins_15 m_f_RX5_98 rfl (by decide +kernel) rfl rfl (by omega) ?_
  refine x_aload_n C dX5_changePins_18 rfl rfl ?_
  refine x_get C (Cn := RX5) (T := TX5) (N := 9) (ci := 5) 2 dX5_changePins_19 m_w_5 m_f_RX5_44 rfl (by decide) rfl rfl ?_
  refine x_aload_n C dX5_changePins_22 rfl rfl ?_
  refine x_get C (Cn := RX0) (T := TX0) (N := 11) (ci := 0) 3 dX5_changePins_23 m_w_0 m_f_RX5_131 rfl (by decide) (kc_job (by omega) (by omega)) rfl ?_
  rw [up_n (show 40 + j ≠ 10 + a by omega), eb]
  refine x_aald C 4 (Cn := "LimbKernel$Numeral") dX5_changePins_26 rfl rfl (by omega) (by omega) rfl ?_
  try rw [Int.toNat_natCast]
  refine x_dup C dX5_changePins_27 rfl ?_
  refine x_get C (Cn := RX2) (T := TX2) (N := 6) (ci := 2) 5 dX5_changePins_28 m_w_2 m_f_RX5_98 rfl (by decide) (kc_num (by omega)) rfl ?_
  refine x_iload_n C dX5_changePins_31 rfl rfl ?_
  refine x_iadd C dX5_changePins_32 ?_
  refine k_putN C (ty := .int) 5 (by decide) dX5_changePins_33 m_f_RX5_98 rfl (by decide +kernel) rfl rfl (by omega) ?_
  refine x_aload_n C dX5_changePins_36 rfl rfl ?_
  refine x_get C (Cn := RX0) (T := TX0) (N := 11) (ci := 0) 1 dX5_changePins_37 m_w_0 m_f_RX5_125 rfl (by decide) (kc_job (by omega) (by omega)) rfl ?_
  rw [up_n (show 40 + j ≠ 10 + b by omega), up_n (show 40 + j ≠ 10 + a by omega)]
  refine x_iconst C dX5_changePins_40 ?_
  refine x_icmp_ne (tgt := 62) C dX5_changePins_41 (by decide) (by omega) (by omega) (fun c_41 => ?_) (fun c_41 => ?_)
  · exact x_vret C dX5_changePins_62 ⟨_, rfl, rfl, by first | exact Or.inr ⟨c_41, rfl⟩ | exact Or.inl ⟨c_41, rfl⟩⟩
  · refine x_aload_n C dX5_changePins_44 rfl rfl ?_
    refine x_get C (Cn := RX5) (T := TX5) (N := 9) (ci := 5) 2 dX5_changePins_45 m_w_5 m_f_RX5_44 rfl (by decide) rfl rfl ?_
    refine x_aload_n C dX5_changePins_48 rfl rfl ?_
    have hm := em c_41
    refine x_get C (Cn := RX0) (T := TX0) (N := 11) (ci := 0) 4 dX5_changePins_49 m_w_0 m_f_RX5_134 rfl (by decide) (kc_job (by omega) (by omega)) rfl ?_
    rw [up_n (show 40 + j ≠ 10 + b by omega), up_n (show 40 + j ≠ 10 + a by omega), hm.2]
    refine x_aald C 4 (Cn := "LimbKernel$Numeral") dX5_changePins_52 rfl rfl (by omega) (by omega) rfl ?_
    try rw [Int.toNat_natCast]
    refine x_dup C dX5_changePins_53 rfl ?_
    refine x_get C (Cn := RX2) (T := TX2) (N := 6) (ci := 2) 5 dX5_changePins_54 m_w_2 m_f_RX5_98 rfl (by decide) (kc_num (by omega)) rfl ?_
    refine x_iload_n C dX5_changePins_57 rfl rfl ?_
    refine x_iadd C dX5_changePins_58 ?_
    refine k_putN C (ty := .int) 5 (by decide) dX5_changePins_59 m_f_RX5_98 rfl (by decide +kernel) rfl rfl (by omega) ?_
    exact x_vret C dX5_changePins_62 ⟨_, rfl, rfl, by first | exact Or.inr ⟨c_41, rfl⟩ | exact Or.inl ⟨c_41, rfl⟩⟩
set_option maxHeartbeats 4000000 in
set_option maxRecDepth 100000 in
theorem c_giveUpRoom {l : Launch} {D : va_G} {ad : Nat → Nat} {g : Nat × Nat × Nat × Nat} (hg : 3 ≤ g.1 ∧ g.1 ≤ 11 ∧ 8 ≤ g.2.1 ∧ g.2.1 ≤ 2048 ∧ 1 ≤ g.2.2.1 ∧ g.2.2.1 ≤ 24 ∧ 1 ≤ g.2.2.2 ∧ g.2.2.2 ≤ 12) (hnp : g.2.1 = 2 ^ g.1) (σ : St) (hM : MI g.1 (σ 4)) (hC : CN g σ) (j : Nat) (hj : j < g.2.2.2) (hr : σ (40 + j) 8 = -1 ∨ ∃ r o : Nat, σ (40 + j) 8 = r ∧ r < 2048 ∧ σ (40 + j) 9 = o ∧ BLK g σ r o) : Kt l D ad g yX5_giveUpRoom (Cond.code yX5_giveUpRoom cX5_giveUpRoom 2 none :: tb) 2 80 [.ref (ad 0), .ref (ad (40 + j))] σ (fun v σ' => v = none ∧ GUR g σ σ' j) := by
  refine ct_of (by decide) rfl (Nat.le_of_ble_eq_true rfl) ?_
  intro p e s m below meth c C
  change X _ _ _ _ _ _ _ _ _ _ _ _ _ _ _ _ [(0, .ref (ad 0)), (1, .ref (ad (40 + j)))] _
  refine x_aload_n C dX5_giveUpRoom_0 rfl rfl ?_
  refine x_get C (Cn := RX0) (T := TX0) (N := 11) (ci := 0) 8 dX5_giveUpRoom_1 m_w_0 m_f_RX5_245 rfl (by decide) (kc_job (by omega) (by omega)) rfl ?_
  refine x_iconst C dX5_giveUpRoom_4 ?_
  refine x_icmp_eq (tgt := 28) C dX5_giveUpRoom_5 (by decide) (by rcases hr with e | ⟨r, o, e, e2, -⟩ <;> omega) (by omega) (fun c_5 => ?_) (fun c_5 => ?_)
  · exact x_vret C dX5_giveUpRoom_28 ⟨_, rfl, rfl, by
        first
        | exact Or.inl ⟨c_5, rfl⟩
        | exact Or.inr ⟨r, o, e8, e9, by rw [up_n (by omega)]; exact e4, fun k hk => by rw [up_n (show 3 ≠ 40 + j by omega), up_n (show 4 ≠ 40 + j by omega)]; exact eC k hk, by rw [up_s, er _ (by omega) (by omega)], fun q h3 h4 h1 => by rw [up_n h1]; exact er q h3 h4⟩⟩
  · obtain ⟨r, o, e8, hr2, e9, hB⟩ := hr.resolve_left c_5
    clear hr
    refine x_aload_n C dX5_giveUpRoom_8 rfl rfl ?_
    refine x_get C (Cn := RX5) (T := TX5) (N := 9) (ci := 5) 0 dX5_giveUpRoom_9 m_w_5 m_f_RX5_18 rfl (by decide) rfl rfl ?_
    refine x_aload_n C dX5_giveUpRoom_12 rfl rfl ?_
    refine x_get C (Cn := RX0) (T := TX0) (N := 11) (ci := 0) 8 dX5_giveUpRoom_13 m_w_0 m_f_RX5_245 rfl (by decide) (kc_job (by omega) (by omega)) rfl ?_
    rw [e8]
    refine x_aload_n C dX5_giveUpRoom_16 rfl rfl ?_
    refine x_get C (Cn := RX0) (T := TX0) (N := 11) (ci := 0) 9 dX5_giveUpRoom_17 m_w_0 m_f_RX5_235 rfl (by decide) (kc_job (by omega) (by omega)) rfl ?_
    rw [e9]
    refine x_callV C (ci := 1) (nn := 2) (c_takeBack hg hnp σ hM hC r o hB.1 hB.2.1 hB.2.2.1 hB.2.2.2) g_RX5_216 rfl (by decide +kernel) ⟨by first | decide | omega, by first | decide | omega⟩ rfl rfl rfl rfl rfl (Nat.le_of_ble_eq_true rfl) dX5_giveUpRoom_20 (fun v h1 hp => ?_)
    obtain ⟨σ1, rfl, rfl, e4, eC, er⟩ := hp
    refine x_aload_n C dX5_giveUpRoom_23 rfl rfl ?_
    refine x_iconst C dX5_giveUpRoom_24 ?_
    refine k_putJ C 8 (by decide) dX5_giveUpRoom_25 m_f_RX5_245 rfl (by decide +kernel) (by omega) (by omega) ?_
    exact x_vret C dX5_giveUpRoom_28 ⟨_, rfl, rfl, by
        first
        | exact Or.inl ⟨c_5, rfl⟩
        | exact Or.inr ⟨r, o, e8, e9, by rw [up_n (by omega)]; exact e4, fun k hk => by rw [up_n (show 3 ≠ 40 + j by omega), up_n (show 4 ≠ 40 + j by omega)]; exact eC k hk, by rw [up_s, er _ (by omega) (by omega)], fun q h3 h4 h1 => by rw [up_n h1]; exact er q h3 h4⟩⟩
def STL (g : Nat × Nat × Nat × Nat) (σ σ' : St) (j r a b m : Nat) : Prop := ∃ σ1 σ2 : St, cpP σ σ1 (σ (40 + j) 1) a b m (-1) ∧ GUR g σ1 σ2 j ∧ σ' = up (up (up (up σ2 (10 + r) 5 (σ2 (10 + r) 5 - 1)) (10 + r) 1 0) (40 + j) 10 0) (40 + j) 0 2
theorem cpP.row {σ σ' : St} {op : Int} {a b m q : Nat} {z : Int} (h : cpP σ σ' op a b m z) (ha : q ≠ 10 + a) (hb : q ≠ 10 + b) (hm : op = 3 → q ≠ 10 + m) : σ' q = σ q := by
  rcases h with ⟨e, rfl⟩ | ⟨e, rfl⟩
  · rw [pinF_n (hm e), pinF_n hb, pinF_n ha]
  · rw [pinF_n hb, pinF_n ha]
theorem cpP.lo {g : Nat × Nat × Nat × Nat} {σ σ' : St} {op : Int} {a b m q : Nat} {z : Int} (h : cpP σ σ' op a b m z) (hH : g.2.2.1 ≤ 24) (ha : a < g.2.2.1) (hb : b < g.2.2.1) (hm : op = 3 → m < g.2.2.1) (hq : q < 10 ∨ 34 ≤ q) : σ' q = σ q := h.row (by omega) (by omega) (fun e => by have := hm e; omega)
theorem GUR.row {g : Nat × Nat × Nat × Nat} {σ σ' : St} {j q : Nat} (h : GUR g σ σ' j) (h3 : q ≠ 3) (h4 : q ≠ 4) (h1 : q ≠ 40 + j) : σ' q = σ q := by
  rcases h with ⟨-, rfl⟩ | ⟨r, o, -, -, -, -, -, e⟩
  · rfl
  · exact e q h3 h4 h1
theorem GUR.job {g : Nat × Nat × Nat × Nat} {σ σ' : St} {j k : Nat} (h : GUR g σ σ' j) (hk : k ≠ 8) : σ' (40 + j) k = σ (40 + j) k := by
  rcases h with ⟨-, rfl⟩ | ⟨r, o, -, -, -, -, e, -⟩
  · rfl
  · rw [e, zup_n hk]
set_option maxHeartbeats 4000000 in
set_option maxRecDepth 100000 in
theorem c_settle {l : Launch} {D : va_G} {ad : Nat → Nat} {g : Nat × Nat × Nat × Nat} (hg : 3 ≤ g.1 ∧ g.1 ≤ 11 ∧ 8 ≤ g.2.1 ∧ g.2.1 ≤ 2048 ∧ 1 ≤ g.2.2.1 ∧ g.2.2.1 ≤ 24 ∧ 1 ≤ g.2.2.2 ∧ g.2.2.2 ≤ 12) (hnp : g.2.1 = 2 ^ g.1) (σ : St) (hM : MI g.1 (σ 4)) (hC : CN g σ) (j : Nat) (hj : j < g.2.2.2) (a b m0 : Nat) (ha : a < g.2.2.1) (hb : b < g.2.2.1) (ea : σ (40 + j) 2 = a) (eb : σ (40 + j) 3 = b) (ho : 0 ≤ σ (40 + j) 1 ∧ σ (40 + j) 1 ≤ 3) (em : σ (40 + j) 1 = 3 → m0 < g.2.2.1 ∧ σ (40 + j) 4 = m0) (hr : σ (40 + j) 8 = -1 ∨ ∃ r o : Nat, σ (40 + j) 8 = r ∧ r < 2048 ∧ σ (40 + j) 9 = o ∧ BLK g σ r o) (rs : Nat) (hrs : rs < g.2.2.1) (ers : σ (40 + j) 5 = rs) : Kt l D ad g yX5_settle (Cond.code yX5_settle cX5_settle 2 none :: tb) 3 140 [.ref (ad 0), .ref (ad (40 + j))] σ (fun v σ' => v = none ∧ STL g σ σ' j rs a b m0) := by
  refine ct_of (by decide) rfl (Nat.le_of_ble_eq_true rfl) ?_
  intro p e s m below meth c C
  change X _ _ _ _ _ _ _ _ _ _ _ _ _ _ _ _ [(0, .ref (ad 0)), (1, .ref (ad (40 + j)))] _
  refine x_aload_n C dX5_settle_0 rfl rfl ?_
  refine x_aload_n C dX5_settle_1 rfl rfl ?_
  refine x_iconst C dX5_settle_2 ?_
  refine x_callV C (ci := 5) (nn := 2) (c_changePins hg σ j hj a b m0 (-1) ha hb ea eb ho em) g_RX5_144 rfl (by decide +kernel) ⟨by first | decide | omega, by first | decide | omega⟩ rfl rfl rfl rfl rfl (Nat.le_of_ble_eq_true rfl) dX5_settle_3 (fun v h1 hp => ?_)
  obtain ⟨σ1, rfl, rfl, hcp⟩ := hp
  have lo := fun q hq => hcp.lo (q := q) (by omega) ha hb (fun e => (em e).1) hq
  have e40 := lo (40 + j) (by omega)
  have hB1 : ∀ r o, BLK g σ r o → BLK g σ1 r o := fun r o h => by unfold BLK; rw [lo 4 (by omega)]; exact h
  refine x_aload_n C dX5_settle_6 rfl rfl ?_
  refine x_aload_n C dX5_settle_7 rfl rfl ?_
  refine x_callV C (ci := 5) (nn := 1) (c_giveUpRoom hg hnp σ1 (by rw [lo 4 (by omega)]; exact hM) (fun k hk => by rw [lo 3 (by omega), lo 4 (by omega)]; exact hC k hk) j hj (by rw [e40]; rcases hr with e | ⟨r, o, e1, e2, e3, e4⟩; exact Or.inl e; exact Or.inr ⟨r, o, e1, e2, e3, hB1 r o e4⟩)) g_RX5_170 rfl (by decide +kernel) ⟨by first | decide | omega, by first | decide | omega⟩ rfl rfl rfl rfl rfl (Nat.le_of_ble_eq_true rfl) dX5_settle_8 (fun v h1 hp => ?_)
  obtain ⟨σ2, rfl, rfl, hgu⟩ := hp
  have e5 : σ2 (40 + j) 5 = rs := by rw [hgu.job (by decide), e40]; exact ers
  refine x_aload_n C dX5_settle_11 rfl rfl ?_
  refine x_get C (Cn := RX5) (T := TX5) (N := 9) (ci := 5) 2 dX5_settle_12 m_w_5 m_f_RX5_44 rfl (by decide) rfl rfl ?_
  refine x_aload_n C dX5_settle_15 rfl rfl ?_
  refine x_get C (Cn := RX0) (T := TX0) (N := 11) (ci := 0) 5 dX5_settle_16 m_w_0 m_f_RX5_113 rfl (by decide) (kc_job (by omega) (by omega)) rfl ?_
  rw [e5]
  refine x_aald C 4 (Cn := "LimbKernel$Numeral") dX5_settle_19 rfl rfl (by omega) (by omega) rfl ?_
  try rw [Int.toNat_natCast]
  refine x_dup C dX5_settle_20 rfl ?_
  refine x_get C (Cn := RX2) (T := TX2) (N := 6) (ci := 2) 5 dX5_settle_21 m_w_2 m_f_RX5_98 rfl (by decide) (kc_num (by omega)) rfl ?_
  refine x_iconst C dX5_settle_24 ?_
  refine x_isub C dX5_settle_25 ?_
  refine k_putN C (ty := .int) 5 (by decide) dX5_settle_26 m_f_RX5_98 rfl (by decide +kernel) rfl rfl (by omega) ?_
  refine x_aload_n C dX5_settle_29 rfl rfl ?_
  refine x_get C (Cn := RX5) (T := TX5) (N := 9) (ci := 5) 2 dX5_settle_30 m_w_5 m_f_RX5_44 rfl (by decide) rfl rfl ?_
  refine x_aload_n C dX5_settle_33 rfl rfl ?_
  refine x_get C (Cn := RX0) (T := TX0) (N := 11) (ci := 0) 5 dX5_settle_34 m_w_0 m_f_RX5_113 rfl (by decide) (kc_job (by omega) (by omega)) rfl ?_
  rw [up_n (show 40 + j ≠ 10 + rs by omega), e5]
  refine x_aald C 4 (Cn := "LimbKernel$Numeral") dX5_settle_37 rfl rfl (by omega) (by omega) rfl ?_
  try rw [Int.toNat_natCast]
  refine x_iconst C dX5_settle_38 ?_
  refine k_putN C (ty := .boolean) 1 (by decide) dX5_settle_39 m_f_RX5_204 rfl (by decide +kernel) (by decide) (by decide) (by omega) ?_
  refine x_aload_n C dX5_settle_42 rfl rfl ?_
  refine x_lconst0 C dX5_settle_43 ?_
  refine k_putJl C dX5_settle_44 m_f_RX5_157 (by omega) (by omega) ?_
  refine x_aload_n C dX5_settle_47 rfl rfl ?_
  refine x_iconst C dX5_settle_48 ?_
  refine k_putJ C 0 (by decide) dX5_settle_49 m_f_RX5_141 rfl (by decide +kernel) (by omega) (by omega) ?_
  exact x_vret C dX5_settle_52 ⟨_, rfl, rfl, σ1, σ2, hcp, hgu, rfl⟩
