/-! RECKONING A JOB -/
def opV (op x y z : Int) : Int := if op = 0 then x * y else if op = 1 then x / y else if op = 2 then gd x y else x ^ y.toNat % z
def dsj (a n b m : Nat) : Prop := a + n ≤ b ∨ b + m ≤ a
/-- what reckoning asks: a, b, m (POWMOD), the result are numbers, the result's limbs 0, the ROOM apart -/
def RKP (g : Nat × Nat × Nat × Nat) (σ : St) (j a b m r Aa na Ab nb Am nm Ar nr : Nat) : Prop :=
  σ (40 + j) 2 = a ∧ σ (40 + j) 3 = b ∧ σ (40 + j) 5 = r ∧ NM g σ a Aa na ∧ NM g σ b Ab nb ∧ NM g σ r Ar nr ∧ (1 ≤ na ∧ 1 ≤ nb) ∧ (∀ q, Ar ≤ q → q < Ar + nr → σ 2 q = 0) ∧ dsj Ar nr Aa na ∧ dsj Ar nr Ab nb ∧ (nr : Int) = plL (σ (40 + j) 1) na nb nm ∧
  (σ (40 + j) 1 = 3 → σ (40 + j) 4 = m ∧ NM g σ m Am nm ∧ dsj Ar nr Am nm ∧ 0 < nv (σ 2) Am nm) ∧ (σ (40 + j) 1 = 1 → 0 < nv (σ 2) Ab nb) ∧
  (σ (40 + j) 1 ≠ 0 → ∃ rm L : Nat, σ (40 + j) 8 = rm ∧ (L : Int) = plR (σ (40 + j) 1) na nb nm ∧ rm + L ≤ g.2.1 ∧ dsj rm L Aa na ∧ dsj rm L Ab nb ∧ dsj rm L Ar nr ∧ (σ (40 + j) 1 = 3 → dsj rm L Am nm))
def RKQ (g : Nat × Nat × Nat × Nat) (σ σ' : St) (j Aa na Ab nb Am nm Ar nr : Nat) : Prop := LM g σ' ∧ (∀ q, q ≠ 2 → q ≠ 5 → σ' q = σ q) ∧ (∀ q, ¬ (Ar ≤ q ∧ q < Ar + nr) → (∀ rm : Nat, σ (40 + j) 8 = rm → ¬ (rm ≤ q ∧ (q : Int) < rm + plR (σ (40 + j) 1) na nb nm)) → σ' 2 q = σ 2 q) ∧ nv (σ' 2) Ar nr = opV (σ (40 + j) 1) (nv (σ 2) Aa na) (nv (σ 2) Ab nb) (nv (σ 2) Am nm)
theorem plL_0 {n m k : Int} : plL 0 n m k = n + m := rfl
theorem plL_1 {n m k : Int} : plL 1 n m k = n := rfl
theorem plL_2 {n m k : Int} : plL 2 n m k = max n m := rfl
theorem plL_3 {n m k : Int} : plL 3 n m k = k := rfl
theorem plR_1 {n m k : Int} : plR 1 n m k = n + m + 1 := rfl
theorem plR_2 {n m k : Int} : plR 2 n m k = 2 * (n + m) := rfl
theorem plR_3 {n m k : Int} : plR 3 n m k = 3 * k + 1 := rfl
set_option maxHeartbeats 4000000 in
set_option maxRecDepth 100000 in
theorem c_reckon {l : Launch} {D : va_G} {ad : Nat → Nat} {g : Nat × Nat × Nat × Nat} (hg : 3 ≤ g.1 ∧ g.1 ≤ 11 ∧ 8 ≤ g.2.1 ∧ g.2.1 ≤ 2048 ∧ 1 ≤ g.2.2.1 ∧ g.2.2.1 ≤ 24 ∧ 1 ≤ g.2.2.2 ∧ g.2.2.2 ≤ 12) (σ : St) (hL : LM g σ) (j : Nat) (hj : j < g.2.2.2) (ho : 0 ≤ σ (40 + j) 1 ∧ σ (40 + j) 1 ≤ 3) (a b m0 r Aa na Ab nb Am nm Ar nr : Nat) (hK : RKP g σ j a b m0 r Aa na Ab nb Am nm Ar nr) : Kt l D ad g yX5_reckon (Cond.code yX5_reckon cX5_reckon 5 none :: tb) 4 200 [.ref (ad 0), .ref (ad (40 + j))] σ (fun v σ' => v = none ∧ RKQ g σ σ' j Aa na Ab nb Am nm Ar nr) := by
  refine ct_of (by decide) rfl (Nat.le_of_ble_eq_true rfl) ?_
  intro p e s m below meth c C
  change X _ _ _ _ _ _ _ _ _ _ _ _ _ _ _ _ [(0, .ref (ad 0)), (1, .ref (ad (40 + j)))] _
  obtain ⟨ea, eb, er, ha, hb, hr, hn1, hz, d1, d2, hnr, h3, h1, hrm⟩ := hK
  have ha1 := ha.1
  have hb1 := hb.1
  have hr1' := hr.1
  have ha4 := ha.2.2.2
  have hb4 := hb.2.2.2
  have hr4 := hr.2.2.2
  unfold dsj at d1 d2
  refine x_aload_n C dX5_reckon_0 rfl rfl ?_
  refine x_get C (Cn := RX5) (T := TX5) (N := 9) (ci := 5) 2 dX5_reckon_1 m_w_5 m_f_RX5_44 rfl (by decide) rfl rfl ?_
  refine x_aload_n C dX5_reckon_4 rfl rfl ?_
  refine x_get C (Cn := RX0) (T := TX0) (N := 11) (ci := 0) 2 dX5_reckon_5 m_w_0 m_f_RX5_128 rfl (by decide) (kc_job (by omega) (by omega)) rfl ?_
  rw [ea]
  refine x_aald C 4 (Cn := "LimbKernel$Numeral") dX5_reckon_8 rfl rfl (by omega) (by omega) rfl ?_
  try rw [Int.toNat_natCast]
  refine x_astore_n C (lv' := [(2, _), (0, _), (1, _)]) dX5_reckon_9 rfl (by decide) rfl ?_
  refine x_aload_n C dX5_reckon_10 rfl rfl ?_
  refine x_get C (Cn := RX5) (T := TX5) (N := 9) (ci := 5) 2 dX5_reckon_11 m_w_5 m_f_RX5_44 rfl (by decide) rfl rfl ?_
  refine x_aload_n C dX5_reckon_14 rfl rfl ?_
  refine x_get C (Cn := RX0) (T := TX0) (N := 11) (ci := 0) 3 dX5_reckon_15 m_w_0 m_f_RX5_131 rfl (by decide) (kc_job (by omega) (by omega)) rfl ?_
  rw [eb]
  refine x_aald C 4 (Cn := "LimbKernel$Numeral") dX5_reckon_18 rfl rfl (by omega) (by omega) rfl ?_
  try rw [Int.toNat_natCast]
  refine x_astore_n C (lv' := [(3, _), (2, _), (0, _), (1, _)]) dX5_reckon_19 rfl (by decide) rfl ?_
  refine x_aload_n C dX5_reckon_20 rfl rfl ?_
  refine x_get C (Cn := RX5) (T := TX5) (N := 9) (ci := 5) 2 dX5_reckon_21 m_w_5 m_f_RX5_44 rfl (by decide) rfl rfl ?_
  refine x_aload_n C dX5_reckon_24 rfl rfl ?_
  refine x_get C (Cn := RX0) (T := TX0) (N := 11) (ci := 0) 5 dX5_reckon_25 m_w_0 m_f_RX5_113 rfl (by decide) (kc_job (by omega) (by omega)) rfl ?_
  rw [er]
  refine x_aald C 4 (Cn := "LimbKernel$Numeral") dX5_reckon_28 rfl rfl (by omega) (by omega) rfl ?_
  try rw [Int.toNat_natCast]
  refine x_astore C (lv' := [(4, _), (3, _), (2, _), (0, _), (1, _)]) dX5_reckon_29 (by decide) rfl ?_
  refine x_aload_n C dX5_reckon_31 rfl rfl ?_
  refine x_get C (Cn := RX0) (T := TX0) (N := 11) (ci := 0) 1 dX5_reckon_32 m_w_0 m_f_RX5_125 rfl (by decide) (kc_job (by omega) (by omega)) rfl ?_
  rcases (show (σ (40 + j) 1 < 0 ∨ 2 < σ (40 + j) 1) ∨ σ (40 + j) 1 = 0 ∨ σ (40 + j) 1 = 1 ∨ σ (40 + j) 1 = 2 by omega) with c_35 | c_35 | c_35 | c_35
  · refine x_tableOut (tgt := 127) C dX5_reckon_35 (by omega) c_35 (by decide) ?_
    have c3 : σ (40 + j) 1 = 3 := by omega
    obtain ⟨rm, L, e8, eL, hLm, x1, x2, x3, x4⟩ := hrm (by omega)
    have x4 := x4 c3
    obtain ⟨em, hm, d3, hMp⟩ := h3 c3
    clear hrm h3 h1
    have hm1 := hm.1
    have hm4 := hm.2.2.2
    rw [c3, plL_3] at hnr
    rw [c3, plR_3] at eL
    unfold dsj at x1 x2 x3 x4 d3
    obtain rfl : nr = nm := by omega
    refine x_aload_n C dX5_reckon_127 rfl rfl ?_
    refine x_get C (Cn := RX5) (T := TX5) (N := 9) (ci := 5) 1 dX5_reckon_128 m_w_5 m_f_RX5_31 rfl (by decide) rfl rfl ?_
    refine x_aload_n C dX5_reckon_131 rfl rfl ?_
    refine x_aload_n C dX5_reckon_132 rfl rfl ?_
    refine x_aload_n C dX5_reckon_133 rfl rfl ?_
    refine x_get C (Cn := RX5) (T := TX5) (N := 9) (ci := 5) 2 dX5_reckon_134 m_w_5 m_f_RX5_44 rfl (by decide) rfl rfl ?_
    refine x_aload_n C dX5_reckon_137 rfl rfl ?_
    refine x_get C (Cn := RX0) (T := TX0) (N := 11) (ci := 0) 4 dX5_reckon_138 m_w_0 m_f_RX5_134 rfl (by decide) (kc_job (by omega) (by omega)) rfl ?_
    rw [em]
    refine x_aald C 4 (Cn := "LimbKernel$Numeral") dX5_reckon_141 rfl rfl (by omega) (by omega) rfl ?_
    try rw [Int.toNat_natCast]
    refine x_aload C dX5_reckon_142 rfl ?_
    refine x_aload_n C dX5_reckon_144 rfl rfl ?_
    refine x_get C (Cn := RX0) (T := TX0) (N := 11) (ci := 0) 8 dX5_reckon_145 m_w_0 m_f_RX5_245 rfl (by decide) (kc_job (by omega) (by omega)) rfl ?_
    rw [e8]
    refine x_callV C (ci := 4) (nn := 5) (c_powerModulo hg σ hL a Aa na b Ab nb m0 Am nr r Ar rm ha hb hm hr (by omega) (by omega) (by omega) (by omega) (by omega) (by omega) (by omega) hz hMp) g_RX5_259 rfl (by decide +kernel) ⟨by first | decide | omega, by first | decide | omega⟩ rfl rfl rfl rfl rfl (Nat.le_of_ble_eq_true rfl) dX5_reckon_148 (fun v h1 hp => ?_)
    obtain ⟨σ1, rfl, rfl, hL1, hr1, hf1, hv1⟩ := hp
    have hfin : RKQ g σ σ1 j Aa na Ab nb Am nr Ar nr := ⟨hL1, hr1, fun q e1 e2 => hf1 q (fun z => e2 rm e8 (by rw [c3, plR_3]; omega)) e1, by rw [c3, hv1]; rfl⟩
    exact x_vret C dX5_reckon_151 ⟨_, rfl, rfl, hfin⟩
  · refine x_tableIn (off := 25) (tgt := 60) C dX5_reckon_35 (by omega) (by omega) (by omega) (by rw [c_35]; rfl) (by decide) ?_
    rw [c_35, plL_0] at hnr
    refine x_aload_n C dX5_reckon_60 rfl rfl ?_
    refine x_get C (Cn := RX5) (T := TX5) (N := 9) (ci := 5) 1 dX5_reckon_61 m_w_5 m_f_RX5_31 rfl (by decide) rfl rfl ?_
    refine x_aload C dX5_reckon_64 rfl ?_
    refine x_get C (Cn := RX2) (T := TX2) (N := 6) (ci := 2) 3 dX5_reckon_66 m_w_2 m_f_RX5_104 rfl (by decide) (kc_num (by omega)) rfl ?_
    rw [hr.2.1]
    refine x_aload_n C dX5_reckon_69 rfl rfl ?_
    refine x_get C (Cn := RX2) (T := TX2) (N := 6) (ci := 2) 3 dX5_reckon_70 m_w_2 m_f_RX5_104 rfl (by decide) (kc_num (by omega)) rfl ?_
    rw [ha.2.1]
    refine x_aload_n C dX5_reckon_73 rfl rfl ?_
    refine x_get C (Cn := RX2) (T := TX2) (N := 6) (ci := 2) 2 dX5_reckon_74 m_w_2 m_f_RX5_110 rfl (by decide) (kc_num (by omega)) rfl ?_
    rw [ha.2.2.1]
    refine x_aload_n C dX5_reckon_77 rfl rfl ?_
    refine x_get C (Cn := RX2) (T := TX2) (N := 6) (ci := 2) 3 dX5_reckon_78 m_w_2 m_f_RX5_104 rfl (by decide) (kc_num (by omega)) rfl ?_
    rw [hb.2.1]
    refine x_aload_n C dX5_reckon_81 rfl rfl ?_
    refine x_get C (Cn := RX2) (T := TX2) (N := 6) (ci := 2) 2 dX5_reckon_82 m_w_2 m_f_RX5_110 rfl (by decide) (kc_num (by omega)) rfl ?_
    rw [hb.2.2.1]
    refine x_callV C (ci := 4) (nn := 5) (c_addProduct hg σ hL Ar Aa na Ab nb (by omega) (by omega) (by omega) (by omega) (by omega) (fun q e1 e2 => hz q e1 (by omega))) g_RX5_248 rfl (by decide +kernel) ⟨by first | decide | omega, by first | decide | omega⟩ rfl rfl rfl rfl rfl (Nat.le_of_ble_eq_true rfl) dX5_reckon_85 (fun v h1 hp => ?_)
    obtain ⟨σ1, rfl, rfl, hL1, hr1, hf1, hv1⟩ := hp
    have hfin : RKQ g σ σ1 j Aa na Ab nb Am nm Ar nr := ⟨hL1, fun q e2 e5 => hr1 q e2, fun q e1 e2 => hf1 q (by omega), by rw [c_35, show nr = na + nb by omega, hv1]; rfl⟩
    refine x_goto (tgt := 151) C dX5_reckon_88 (by decide) ?_
    exact x_vret C dX5_reckon_151 ⟨_, rfl, rfl, hfin⟩
  · refine x_tableIn (off := 56) (tgt := 91) C dX5_reckon_35 (by omega) (by omega) (by omega) (by rw [c_35]; rfl) (by decide) ?_
    obtain ⟨rm, L, e8, eL, hLm, x1, x2, x3, -⟩ := hrm (by omega)
    have hB := h1 c_35
    clear hrm h3 h1
    rw [c_35, plL_1] at hnr
    rw [c_35, plR_1] at eL
    unfold dsj at x1 x2 x3
    obtain rfl : nr = na := by omega
    refine x_aload_n C dX5_reckon_91 rfl rfl ?_
    refine x_get C (Cn := RX5) (T := TX5) (N := 9) (ci := 5) 1 dX5_reckon_92 m_w_5 m_f_RX5_31 rfl (by decide) rfl rfl ?_
    refine x_aload_n C dX5_reckon_95 rfl rfl ?_
    refine x_aload_n C dX5_reckon_96 rfl rfl ?_
    refine x_aload C dX5_reckon_97 rfl ?_
    refine x_aload_n C dX5_reckon_99 rfl rfl ?_
    refine x_get C (Cn := RX0) (T := TX0) (N := 11) (ci := 0) 8 dX5_reckon_100 m_w_0 m_f_RX5_245 rfl (by decide) (kc_job (by omega) (by omega)) rfl ?_
    rw [e8]
    refine x_callV C (ci := 4) (nn := 4) (c_quotient hg σ hL a Aa nr b Ab nb r Ar rm ha hb hr (by omega) (by omega) (by omega) (by omega) (by omega) (by omega) hz hB) g_RX5_252 rfl (by decide +kernel) ⟨by first | decide | omega, by first | decide | omega⟩ rfl rfl rfl rfl rfl (Nat.le_of_ble_eq_true rfl) dX5_reckon_103 (fun v h1 hp => ?_)
    obtain ⟨σ1, rfl, rfl, hL1, hr1, hf1, hv1⟩ := hp
    have hfin : RKQ g σ σ1 j Aa nr Ab nb Am nm Ar nr := ⟨hL1, hr1, fun q e1 e2 => hf1 q (fun z => e2 rm e8 (by rw [c_35, plR_1]; omega)) e1, by rw [c_35, hv1]; rfl⟩
    refine x_goto (tgt := 151) C dX5_reckon_106 (by decide) ?_
    exact x_vret C dX5_reckon_151 ⟨_, rfl, rfl, hfin⟩
  · refine x_tableIn (off := 74) (tgt := 109) C dX5_reckon_35 (by omega) (by omega) (by omega) (by rw [c_35]; rfl) (by decide) ?_
    obtain ⟨rm, L, e8, eL, hLm, x1, x2, x3, -⟩ := hrm (by omega)
    clear hrm h3 h1
    rw [c_35, plL_2] at hnr
    rw [c_35, plR_2] at eL
    unfold dsj at x1 x2 x3
    obtain rfl : nr = max na nb := by omega
    refine x_aload_n C dX5_reckon_109 rfl rfl ?_
    refine x_get C (Cn := RX5) (T := TX5) (N := 9) (ci := 5) 1 dX5_reckon_110 m_w_5 m_f_RX5_31 rfl (by decide) rfl rfl ?_
    refine x_aload_n C dX5_reckon_113 rfl rfl ?_
    refine x_aload_n C dX5_reckon_114 rfl rfl ?_
    refine x_aload C dX5_reckon_115 rfl ?_
    refine x_aload_n C dX5_reckon_117 rfl rfl ?_
    refine x_get C (Cn := RX0) (T := TX0) (N := 11) (ci := 0) 8 dX5_reckon_118 m_w_0 m_f_RX5_245 rfl (by decide) (kc_job (by omega) (by omega)) rfl ?_
    rw [e8]
    refine x_callV C (ci := 4) (nn := 4) (c_greatestDivisor hg σ hL a Aa na b Ab nb r Ar rm ha hb hr (by omega) (by omega) (by omega) (by omega) hz) g_RX5_256 rfl (by decide +kernel) ⟨by first | decide | omega, by first | decide | omega⟩ rfl rfl rfl rfl rfl (Nat.le_of_ble_eq_true rfl) dX5_reckon_121 (fun v h1 hp => ?_)
    obtain ⟨σ1, rfl, rfl, hL1, hr1, hf1, hv1⟩ := hp
    have hfin : RKQ g σ σ1 j Aa na Ab nb Am nm Ar (max na nb) := ⟨hL1, hr1, fun q e1 e2 => hf1 q (fun z => e2 rm e8 (by rw [c_35, plR_2]; omega)) e1, by rw [c_35, hv1]; rfl⟩
    refine x_goto (tgt := 151) C dX5_reckon_124 (by decide) ?_
    exact x_vret C dX5_reckon_151 ⟨_, rfl, rfl, hfin⟩
