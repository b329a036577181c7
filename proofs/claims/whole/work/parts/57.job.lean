/-! WHAT A JOB NEEDS -/
def rmP (ro r2 : Int) : Prop := (ro = 0 ∧ r2 = -1) ∨ (ro ≠ 0 ∧ ∃ r : Nat, r2 = r ∧ ordP ro r ∧ r ≤ 17)
def ndP (σ σ' : St) (n : Nat) (rl ro w : Int) : Prop := ∃ (r1 : Nat) (r2 : Int), ordP rl r1 ∧ r1 ≤ 17 ∧ rmP ro r2 ∧ σ' = up (up (up (up σ n 6 rl) n 7 (r1 : Int)) n 9 r2) n 10 w
set_option maxHeartbeats 4000000 in
set_option maxRecDepth 100000 in
theorem c_need {l : Launch} {D : va_G} {ad : Nat → Nat} {g : Nat × Nat × Nat × Nat} (hg : 3 ≤ g.1 ∧ g.1 ≤ 11 ∧ 8 ≤ g.2.1 ∧ g.2.1 ≤ 2048 ∧ 1 ≤ g.2.2.1 ∧ g.2.2.1 ≤ 24 ∧ 1 ≤ g.2.2.2 ∧ g.2.2.2 ≤ 12) (σ : St) (j : Nat) (hj : j < g.2.2.2) (rl ro w : Int) (h1 : 0 ≤ rl ∧ rl ≤ 65536) (h2 : 0 ≤ ro ∧ ro ≤ 65536) : Kt l D ad g yX0_need (Cond.code yX0_need cX0_need 7 none :: tb) 1 40 [.ref (ad (40 + j)), vl rl, vl ro, vl w] σ (fun v σ' => v = none ∧ ndP σ σ' (40 + j) rl ro w) := by
  refine ct_of (by decide) rfl (Nat.le_of_ble_eq_true rfl) ?_
  intro p e s m below meth c C
  change X _ _ _ _ _ _ _ _ _ _ _ _ _ _ _ _ [(0, .ref (ad (40 + j))), (1, vl rl), (3, vl ro), (5, vl w)] _
  refine x_aload_n C dX0_need_0 rfl rfl ?_
  refine x_lload_n C dX0_need_1 rfl rfl ?_
  refine x_l2i C dX0_need_2 ?_
  refine k_putJ C 6 (by decide) dX0_need_3 m_f_RX0_45 rfl (by decide +kernel) (by omega) (by omega) ?_
  refine x_aload_n C dX0_need_6 rfl rfl ?_
  refine x_lload_n C dX0_need_7 rfl rfl ?_
  refine x_callS C (nn := 1) (c_orderFor _ rl h1) g_RX0_48 rfl (by decide +kernel) ⟨by first | decide | omega, by first | decide | omega⟩ rfl rfl (Nat.le_of_ble_eq_true rfl) dX0_need_8 (fun v h1 hp => ?_)
  obtain ⟨σ1, rfl, rfl, r1, rfl, hr1, hr2⟩ := hp
  refine k_putJ C 7 (by decide) dX0_need_11 m_f_RX0_54 rfl (by decide +kernel) (by omega) (by omega) ?_
  refine x_aload_n C dX0_need_14 rfl rfl ?_
  refine x_lload_n C dX0_need_15 rfl rfl ?_
  refine x_lconst0 C dX0_need_16 ?_
  refine x_lif_ne (tgt := 25) C dX0_need_17 dX0_need_18 (by decide) (by omega) (by omega) (fun c_17 => ?_) (fun c_17 => ?_)
  · refine x_lload_n C dX0_need_25 rfl rfl ?_
    refine x_callS C (nn := 1) (c_orderFor _ ro h2) g_RX0_48 rfl (by decide +kernel) ⟨by first | decide | omega, by first | decide | omega⟩ rfl rfl (Nat.le_of_ble_eq_true rfl) dX0_need_26 (fun v h1 hp => ?_)
    obtain ⟨σ1, rfl, rfl, r2, rfl, hr3, hr4⟩ := hp
    refine k_putJ C 9 (by decide) dX0_need_29 m_f_RX0_21 rfl (by decide +kernel) (by omega) (by omega) ?_
    refine x_aload_n C dX0_need_32 rfl rfl ?_
    refine x_lload C dX0_need_33 rfl ?_
    refine k_putJl C dX0_need_35 m_f_RX0_57 (by omega) (by omega) ?_
    exact x_vret C dX0_need_38 ⟨_, rfl, rfl, r1, _, hr1, hr2, by first | exact Or.inl ⟨by omega, rfl⟩ | exact Or.inr ⟨by omega, r2, rfl, hr3, hr4⟩, rfl⟩
  · refine x_iconst C dX0_need_21 ?_
    refine x_goto (tgt := 29) C dX0_need_22 (by decide) ?_
    refine k_putJ C 9 (by decide) dX0_need_29 m_f_RX0_21 rfl (by decide +kernel) (by omega) (by omega) ?_
    refine x_aload_n C dX0_need_32 rfl rfl ?_
    refine x_lload C dX0_need_33 rfl ?_
    refine k_putJl C dX0_need_35 m_f_RX0_57 (by omega) (by omega) ?_
    exact x_vret C dX0_need_38 ⟨_, rfl, rfl, r1, _, hr1, hr2, by first | exact Or.inl ⟨by omega, rfl⟩ | exact Or.inr ⟨by omega, r2, rfl, hr3, hr4⟩, rfl⟩
def plL (op n m k : Int) : Int := if op = 0 then n + m else if op = 1 then n else if op = 2 then max n m else k
def plR (op n m k : Int) : Int := if op = 0 then 0 else if op = 1 then n + m + 1 else if op = 2 then 2 * (n + m) else 3 * k + 1
def plW (op n m k : Int) : Int := if op = 0 then n * m else if op = 1 then 31 * n * (m + 1) else if op = 2 then 31 * (n + m) * (n + m) else 31 * n * k + 1922 * m * k * k
set_option maxHeartbeats 4000000 in
set_option maxRecDepth 100000 in
theorem c_plan {l : Launch} {D : va_G} {ad : Nat → Nat} {g : Nat × Nat × Nat × Nat} (hg : 3 ≤ g.1 ∧ g.1 ≤ 11 ∧ 8 ≤ g.2.1 ∧ g.2.1 ≤ 2048 ∧ 1 ≤ g.2.2.1 ∧ g.2.2.1 ≤ 24 ∧ 1 ≤ g.2.2.2 ∧ g.2.2.2 ≤ 12) (σ : St) (j : Nat) (hj : j < g.2.2.2) (n m1 k : Int) (h1 : 0 ≤ n ∧ n ≤ 2048) (h2 : 0 ≤ m1 ∧ m1 ≤ 2048) (h3 : 0 ≤ k ∧ k ≤ 2048) (ho : 0 ≤ σ (40 + j) 1 ∧ σ (40 + j) 1 ≤ 3) : Kt l D ad g yX0_plan (Cond.code yX0_plan cX0_plan 7 none :: tb) 2 100 [.ref (ad (40 + j)), vl n, vl m1, vl k] σ (fun v σ' => v = none ∧ ndP σ σ' (40 + j) (plL (σ (40 + j) 1) n m1 k) (plR (σ (40 + j) 1) n m1 k) (plW (σ (40 + j) 1) n m1 k)) := by
  refine ct_of (by decide) rfl (Nat.le_of_ble_eq_true rfl) ?_
  intro p e s m below meth c C
  change X _ _ _ _ _ _ _ _ _ _ _ _ _ _ _ _ [(0, .ref (ad (40 + j))), (1, vl n), (3, vl m1), (5, vl k)] _
  refine x_aload_n C dX0_plan_0 rfl rfl ?_
  refine x_get C (Cn := RX0) (T := TX0) (N := 11) (ci := 0) 1 dX0_plan_1 m_w_0 m_f_RX0_24 rfl (by decide) (kc_job (by omega) (by omega)) rfl ?_
  rcases (show (σ (40 + j) 1 < 0 ∨ 2 < σ (40 + j) 1) ∨ σ (40 + j) 1 = 0 ∨ σ (40 + j) 1 = 1 ∨ σ (40 + j) 1 = 2 by omega) with c_4 | c_4 | c_4 | c_4
  · refine x_tableOut (tgt := 98) C dX0_plan_4 (by omega) c_4 (by decide) ?_
    refine x_aload_n C dX0_plan_98 rfl rfl ?_
    refine x_lload C dX0_plan_99 rfl ?_
    refine x_ldc2 C (z := 3) dX0_plan_101 (C.2.2.2.2.1 _ m_k_RX0_41) (by decide) ?_
    refine x_lload C dX0_plan_104 rfl ?_
    refine x_lmul C dX0_plan_106 ?_
    refine x_lconst1 C dX0_plan_107 ?_
    refine x_ladd C dX0_plan_108 ?_
    refine x_ldc2 C (z := 31) dX0_plan_109 (C.2.2.2.2.1 _ m_k_RX0_31) (by decide) ?_
    refine x_lload_n C dX0_plan_112 rfl rfl ?_
    refine x_lmul C dX0_plan_113 ?_
    refine x_lload C dX0_plan_114 rfl ?_
    refine x_lmul C dX0_plan_116 ?_
    refine x_ldc2 C (z := 1922) dX0_plan_117 (C.2.2.2.2.1 _ m_k_RX0_43) (by decide) ?_
    refine x_lload_n C dX0_plan_120 rfl rfl ?_
    refine x_lmul C dX0_plan_121 ?_
    refine x_lload C dX0_plan_122 rfl ?_
    refine x_lmul C dX0_plan_124 ?_
    refine x_lload C dX0_plan_125 rfl ?_
    refine x_lmul C dX0_plan_127 ?_
    refine x_ladd C dX0_plan_128 ?_
    refine x_callV C (ci := 0) (nn := 3) (c_need hg σ j hj _ _ _ (by omega) (by omega)) g_RX0_27 rfl (by decide +kernel) ⟨by first | decide | omega, by first | decide | omega⟩ rfl rfl (kc_job (by omega) (by omega)) rfl rfl (Nat.le_of_ble_eq_true rfl) dX0_plan_129 (fun v h1 hp => ?_)
    obtain ⟨σ1, rfl, rfl, hp⟩ := hp
    exact x_vret C dX0_plan_132 ⟨_, rfl, rfl, by
        first
        | (simp only [plL, plR, plW, c_4]; exact hp)
        | (rw [plL, plR, plW, if_neg (by omega), if_neg (by omega), if_neg (by omega), if_neg (by omega), if_neg (by omega), if_neg (by omega), if_neg (by omega), if_neg (by omega), if_neg (by omega)]; exact hp)⟩
  · refine x_tableIn (off := 28) (tgt := 32) C dX0_plan_4 (by omega) (by omega) (by omega) (by rw [c_4]; rfl) (by decide) ?_
    refine x_aload_n C dX0_plan_32 rfl rfl ?_
    refine x_lload_n C dX0_plan_33 rfl rfl ?_
    refine x_lload_n C dX0_plan_34 rfl rfl ?_
    refine x_ladd C dX0_plan_35 ?_
    refine x_lconst0 C dX0_plan_36 ?_
    refine x_lload_n C dX0_plan_37 rfl rfl ?_
    refine x_lload_n C dX0_plan_38 rfl rfl ?_
    refine x_lmul C dX0_plan_39 ?_
    refine x_callV C (ci := 0) (nn := 3) (c_need hg σ j hj _ _ _ (by omega) (by omega)) g_RX0_27 rfl (by decide +kernel) ⟨by first | decide | omega, by first | decide | omega⟩ rfl rfl (kc_job (by omega) (by omega)) rfl rfl (Nat.le_of_ble_eq_true rfl) dX0_plan_40 (fun v h1 hp => ?_)
    obtain ⟨σ1, rfl, rfl, hp⟩ := hp
    refine x_goto (tgt := 132) C dX0_plan_43 (by decide) ?_
    exact x_vret C dX0_plan_132 ⟨_, rfl, rfl, by
        first
        | (simp only [plL, plR, plW, c_4]; exact hp)
        | (rw [plL, plR, plW, if_neg (by omega), if_neg (by omega), if_neg (by omega), if_neg (by omega), if_neg (by omega), if_neg (by omega), if_neg (by omega), if_neg (by omega), if_neg (by omega)]; exact hp)⟩
  · refine x_tableIn (off := 42) (tgt := 46) C dX0_plan_4 (by omega) (by omega) (by omega) (by rw [c_4]; rfl) (by decide) ?_
    refine x_aload_n C dX0_plan_46 rfl rfl ?_
    refine x_lload_n C dX0_plan_47 rfl rfl ?_
    refine x_lload_n C dX0_plan_48 rfl rfl ?_
    refine x_lload_n C dX0_plan_49 rfl rfl ?_
    refine x_ladd C dX0_plan_50 ?_
    refine x_lconst1 C dX0_plan_51 ?_
    refine x_ladd C dX0_plan_52 ?_
    refine x_ldc2 C (z := 31) dX0_plan_53 (C.2.2.2.2.1 _ m_k_RX0_31) (by decide) ?_
    refine x_lload_n C dX0_plan_56 rfl rfl ?_
    refine x_lmul C dX0_plan_57 ?_
    refine x_lload_n C dX0_plan_58 rfl rfl ?_
    refine x_lconst1 C dX0_plan_59 ?_
    refine x_ladd C dX0_plan_60 ?_
    refine x_lmul C dX0_plan_61 ?_
    refine x_callV C (ci := 0) (nn := 3) (c_need hg σ j hj _ _ _ (by omega) (by omega)) g_RX0_27 rfl (by decide +kernel) ⟨by first | decide | omega, by first | decide | omega⟩ rfl rfl (kc_job (by omega) (by omega)) rfl rfl (Nat.le_of_ble_eq_true rfl) dX0_plan_62 (fun v h1 hp => ?_)
    obtain ⟨σ1, rfl, rfl, hp⟩ := hp
    refine x_goto (tgt := 132) C dX0_plan_65 (by decide) ?_
    exact x_vret C dX0_plan_132 ⟨_, rfl, rfl, by
        first
        | (simp only [plL, plR, plW, c_4]; exact hp)
        | (rw [plL, plR, plW, if_neg (by omega), if_neg (by omega), if_neg (by omega), if_neg (by omega), if_neg (by omega), if_neg (by omega), if_neg (by omega), if_neg (by omega), if_neg (by omega)]; exact hp)⟩
  · refine x_tableIn (off := 64) (tgt := 68) C dX0_plan_4 (by omega) (by omega) (by omega) (by rw [c_4]; rfl) (by decide) ?_
    refine x_aload_n C dX0_plan_68 rfl rfl ?_
    refine x_lload_n C dX0_plan_69 rfl rfl ?_
    refine x_lload_n C dX0_plan_70 rfl rfl ?_
    refine x_mmaxl C dX0_plan_71 m_l_RX0_33 (by omega) (by omega) (by decide) (Nat.le_of_ble_eq_true rfl) ?_
    refine x_ldc2 C (z := 2) dX0_plan_74 (C.2.2.2.2.1 _ m_k_RX0_39) (by decide) ?_
    refine x_lload_n C dX0_plan_77 rfl rfl ?_
    refine x_lload_n C dX0_plan_78 rfl rfl ?_
    refine x_ladd C dX0_plan_79 ?_
    refine x_lmul C dX0_plan_80 ?_
    refine x_ldc2 C (z := 31) dX0_plan_81 (C.2.2.2.2.1 _ m_k_RX0_31) (by decide) ?_
    refine x_lload_n C dX0_plan_84 rfl rfl ?_
    refine x_lload_n C dX0_plan_85 rfl rfl ?_
    refine x_ladd C dX0_plan_86 ?_
    refine x_lmul C dX0_plan_87 ?_
    refine x_lload_n C dX0_plan_88 rfl rfl ?_
    refine x_lload_n C dX0_plan_89 rfl rfl ?_
    refine x_ladd C dX0_plan_90 ?_
    refine x_lmul C dX0_plan_91 ?_
    refine x_callV C (ci := 0) (nn := 3) (c_need hg σ j hj _ _ _ (by omega) (by omega)) g_RX0_27 rfl (by decide +kernel) ⟨by first | decide | omega, by first | decide | omega⟩ rfl rfl (kc_job (by omega) (by omega)) rfl rfl (Nat.le_of_ble_eq_true rfl) dX0_plan_92 (fun v h1 hp => ?_)
    obtain ⟨σ1, rfl, rfl, hp⟩ := hp
    refine x_goto (tgt := 132) C dX0_plan_95 (by decide) ?_
    exact x_vret C dX0_plan_132 ⟨_, rfl, rfl, by
        first
        | (simp only [plL, plR, plW, c_4]; exact hp)
        | (rw [plL, plR, plW, if_neg (by omega), if_neg (by omega), if_neg (by omega), if_neg (by omega), if_neg (by omega), if_neg (by omega), if_neg (by omega), if_neg (by omega), if_neg (by omega)]; exact hp)⟩
