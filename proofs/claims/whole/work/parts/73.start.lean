/-! A JOB STARTS -/
def STA (g : Nat × Nat × Nat × Nat) (σ σ' : St) (j n o : Nat) : Prop :=
  (σ = σ' ∧ ((∀ k, k < g.2.2.1 → ¬ σ (10 + k) 0 = 0) ∨ ¬ cgP σ g.1 o (σ (40 + j) 9))) ∨
  (cgP σ g.1 o (σ (40 + j) 9) ∧ ∃ (h A : Nat) (σ1 σ2 : St), (h < g.2.2.1 ∧ σ (10 + h) 0 = 0 ∧ ∀ i, i < h → ¬ σ (10 + i) 0 = 0) ∧ gvP g σ σ1 o A ∧ A + n ≤ g.2.1 ∧ OCC σ1 σ2 h n o A ∧
    ((σ (40 + j) 9 = -1 ∧ σ' = up (up (up (up σ2 (10 + h) 1 1) (10 + h) 5 1) (40 + j) 5 h) (40 + j) 0 1) ∨
     (∃ (o2 : Nat) (r2 : Int) (σ4 : St), σ (40 + j) 9 = o2 ∧ gvP g (up (up (up σ2 (10 + h) 1 1) (10 + h) 5 1) (40 + j) 5 h) σ4 o2 r2 ∧ σ' = up (up σ4 (40 + j) 8 r2) (40 + j) 0 1)))
theorem cgP.some {g : Nat × Nat × Nat × Nat} {σ : St} {k : Nat} {k2 : Int} (h : cgP σ g.1 k k2) (hC : CN g σ) : ∃ a, a < g.2.1 ∧ (k : Int) ≤ σ 4 a := by
  obtain ⟨x, h1, h2, -⟩ := h
  rcases h1 with ⟨e, -⟩ | ⟨e1, e2, e3, -⟩
  · exact absurd e h2
  · rw [hC _ (by omega), show ((x.toNat : Nat) : Int) = x by omega] at e3
    obtain ⟨a, a1, a2, -⟩ := cnt_pos e3
    exact ⟨a, a1, by omega⟩
set_option maxHeartbeats 4000000 in
set_option maxRecDepth 100000 in
theorem c_start {l : Launch} {D : va_G} {ad : Nat → Nat} {g : Nat × Nat × Nat × Nat} (hg : 3 ≤ g.1 ∧ g.1 ≤ 11 ∧ 8 ≤ g.2.1 ∧ g.2.1 ≤ 2048 ∧ 1 ≤ g.2.2.1 ∧ g.2.2.1 ≤ 24 ∧ 1 ≤ g.2.2.2 ∧ g.2.2.2 ≤ 12) (hnp : g.2.1 = 2 ^ g.1) (σ : St) (hM : MI g.1 (σ 4)) (hC : CN g σ) (hF : FLG g σ) (hU : 0 ≤ σ 0 6 ∧ σ 0 6 ≤ g.2.2.1) (hall : σ 0 6 = g.2.2.1 → ∀ k, k < g.2.2.1 → ¬ σ (10 + k) 0 = 0) (j : Nat) (hj : j < g.2.2.2) (n o : Nat) (en : σ (40 + j) 6 = n) (eo : σ (40 + j) 7 = o) (ho : o ≤ 17) (hno : n ≤ 2 ^ o) (hr : σ (40 + j) 9 = -1 ∨ ∃ o2 : Nat, σ (40 + j) 9 = o2 ∧ o2 ≤ 17) : Kt l D ad g yX5_start (Cond.code yX5_start cX5_start 3 none :: tb) 3 140 [.ref (ad 0), .ref (ad (40 + j))] σ (fun v σ' => v = none ∧ STA g σ σ' j n o) := by
  refine ct_of (by decide) rfl (Nat.le_of_ble_eq_true rfl) ?_
  intro p e s m below meth c C
  change X _ _ _ _ _ _ _ _ _ _ _ _ _ _ _ _ [(0, .ref (ad 0)), (1, .ref (ad (40 + j)))] _
  have hrr : -1 ≤ σ (40 + j) 9 ∧ σ (40 + j) 9 ≤ 17 := by rcases hr with e | ⟨o2, e, e2⟩ <;> omega
  refine x_aload_n C dX5_start_0 rfl rfl ?_
  refine x_callV C (ci := 5) (nn := 0) (c_leastFreeHandle hg σ hF hU hall) g_RX5_78 rfl (by decide +kernel) ⟨by first | decide | omega, by first | decide | omega⟩ rfl rfl rfl rfl rfl (Nat.le_of_ble_eq_true rfl) dX5_start_1 (fun v h1 hp => ?_)
  obtain ⟨σ1, rfl, rfl, r, rfl, hl⟩ := hp
  have hlr : -1 ≤ r ∧ r < 24 := by rcases hl with ⟨e, -⟩ | ⟨k, e, e2, -⟩ <;> omega
  dsimp only [Option.toList, List.cons_append, List.nil_append]
  refine x_istore_n C (lv' := [(2, _), (0, _), (1, _)]) dX5_start_4 rfl (by decide) rfl ?_
  refine x_iload_n C dX5_start_5 rfl rfl ?_
  refine x_iconst C dX5_start_6 ?_
  refine x_icmp_eq (tgt := 28) C dX5_start_7 (by decide) (by omega) (by omega) (fun c_7 => ?_) (fun c_7 => ?_)
  · exact x_vret C dX5_start_28 ⟨_, rfl, rfl, Or.inl ⟨rfl, by
        first
        | (left; rcases hl with ⟨-, e⟩ | ⟨k, e, -⟩; exact e; omega)
        | (right; rcases hx with ⟨e, -⟩ | ⟨-, e⟩; omega; exact e)⟩⟩
  · refine x_aload_n C dX5_start_10 rfl rfl ?_
    refine x_get C (Cn := RX5) (T := TX5) (N := 9) (ci := 5) 0 dX5_start_11 m_w_5 m_f_RX5_18 rfl (by decide) rfl rfl ?_
    refine x_aload_n C dX5_start_14 rfl rfl ?_
    refine x_get C (Cn := RX0) (T := TX0) (N := 11) (ci := 0) 7 dX5_start_15 m_w_0 m_f_RX5_232 rfl (by decide) (kc_job (by omega) (by omega)) rfl ?_
    rw [eo]
    refine x_aload_n C dX5_start_18 rfl rfl ?_
    refine x_get C (Cn := RX0) (T := TX0) (N := 11) (ci := 0) 9 dX5_start_19 m_w_0 m_f_RX5_235 rfl (by decide) (kc_job (by omega) (by omega)) rfl ?_
    refine x_callV C (ci := 1) (nn := 2) (c_canGive hg σ (hC.rg (by omega)) (o : Int) (σ (40 + j) 9) (by omega) (by omega)) g_RX5_238 rfl (by decide +kernel) ⟨by first | decide | omega, by first | decide | omega⟩ rfl rfl rfl rfl rfl (Nat.le_of_ble_eq_true rfl) dX5_start_22 (fun v h1 hp => ?_)
    obtain ⟨σ1, rfl, rfl, hcg⟩ := hp
    obtain ⟨x, rfl, hx⟩ : ∃ x : Int, v = some (vi x) ∧ ((x = 1 ∧ cgP σ g.1 o (σ (40 + j) 9)) ∨ (x = 0 ∧ ¬ cgP σ g.1 o (σ (40 + j) 9))) := by
      rcases hcg with ⟨h1, h2⟩ | ⟨h1, h2⟩
      · exact ⟨1, h2, Or.inl ⟨rfl, h1⟩⟩
      · exact ⟨0, h2, Or.inr ⟨rfl, h1⟩⟩
    dsimp only [Option.toList, List.cons_append, List.nil_append]
    refine x_if_ne (tgt := 29) C dX5_start_25 (by decide) (by rcases hx with ⟨e, -⟩ | ⟨e, -⟩ <;> omega) (fun c_25 => ?_) (fun c_25 => ?_)
    · have hcg : cgP σ g.1 o (σ (40 + j) 9) := by rcases hx with ⟨-, e⟩ | ⟨e, -⟩; exact e; exact absurd e c_25
      obtain ⟨h, rfl, hh1, hh2, hh3⟩ : ∃ k : Nat, r = k ∧ k < g.2.2.1 ∧ σ (10 + k) 0 = 0 ∧ ∀ i, i < k → ¬ σ (10 + i) 0 = 0 := by
        rcases hl with ⟨e, -⟩ | e
        · exact absurd e c_7
        · exact e
      refine x_aload_n C dX5_start_29 rfl rfl ?_
      refine x_iload_n C dX5_start_30 rfl rfl ?_
      refine x_aload_n C dX5_start_31 rfl rfl ?_
      refine x_get C (Cn := RX0) (T := TX0) (N := 11) (ci := 0) 6 dX5_start_32 m_w_0 m_f_RX5_242 rfl (by decide) (kc_job (by omega) (by omega)) rfl ?_
      rw [en]
      refine x_aload_n C dX5_start_35 rfl rfl ?_
      refine x_get C (Cn := RX0) (T := TX0) (N := 11) (ci := 0) 7 dX5_start_36 m_w_0 m_f_RX5_232 rfl (by decide) (kc_job (by omega) (by omega)) rfl ?_
      rw [eo]
      refine x_aload_n C dX5_start_39 rfl rfl ?_
      refine x_get C (Cn := RX5) (T := TX5) (N := 9) (ci := 5) 0 dX5_start_40 m_w_5 m_f_RX5_18 rfl (by decide) rfl rfl ?_
      refine x_aload_n C dX5_start_43 rfl rfl ?_
      refine x_get C (Cn := RX0) (T := TX0) (N := 11) (ci := 0) 7 dX5_start_44 m_w_0 m_f_RX5_232 rfl (by decide) (kc_job (by omega) (by omega)) rfl ?_
      rw [eo]
      refine x_callV C (ci := 1) (nn := 1) (c_give hg hnp σ hM hC o (by omega)) g_RX5_86 rfl (by decide +kernel) ⟨by first | decide | omega, by first | decide | omega⟩ rfl rfl rfl rfl rfl (Nat.le_of_ble_eq_true rfl) dX5_start_47 (fun v h1 hp => ?_)
      obtain ⟨σ1, rfl, r1, rfl, hgv⟩ := hp
      obtain ⟨A, d, rfl, hA1, hA2, hA3, hA4, hA5, hC1, hrow1⟩ : ∃ a d : Nat, r1 = a ∧ a < g.2.1 ∧ σ 4 a = ((o + d : Nat) : Int) ∧ (∀ b, b < g.2.1 → (o : Int) ≤ σ 4 b → ((o + d : Nat) : Int) ≤ σ 4 b) ∧ (∀ b, b < a → σ 4 b ≠ ((o + d : Nat) : Int)) ∧ σ1 4 = splF (zup (σ 4) a (-1)) a o d ∧ CN g σ1 ∧ ∀ q, q ≠ 3 → q ≠ 4 → σ1 q = σ q := by
        rcases hgv with ⟨-, -, e⟩ | e
        · obtain ⟨a, a1, a2⟩ := hcg.some hC
          exact absurd a2 (e a a1)
        · exact e
      dsimp only [Option.toList, List.cons_append, List.nil_append]
      have hgv' : gvP g σ σ1 o A := Or.inr ⟨A, d, rfl, hA1, hA2, hA3, hA4, hA5, hC1, hrow1⟩
      have hT := HB.take hM (show A < 2 ^ g.1 by omega) hA2
      obtain ⟨hM1, hB1⟩ := HB.spl (by omega) (hM.rem (a := A)) hT
      rw [← hA5] at hM1 hB1
      have hAn : A + n ≤ g.2.1 := by have := hB1.2.1; omega
      refine x_callV C (ci := 5) (nn := 4) (c_occupy hg σ1 h n o A hh1 hAn) g_RX5_90 rfl (by decide +kernel) ⟨by first | decide | omega, by first | decide | omega⟩ rfl rfl rfl rfl rfl (Nat.le_of_ble_eq_true rfl) dX5_start_50 (fun v h1 hp => ?_)
      obtain ⟨σ2, rfl, rfl, hoc⟩ := hp
      obtain ⟨p0, p1, p2, p3, p4, p5, p6, p7, p8⟩ := id hoc
      have e34 : ∀ q, q = 3 ∨ q = 4 → σ2 q = σ1 q := fun q hq => p8 q (by omega) (by omega) (by omega)
      have e40 : σ2 (40 + j) = σ (40 + j) := by rw [p8 _ (by omega) (by omega) (by omega), hrow1 _ (by omega) (by omega)]
      refine x_aload_n C dX5_start_53 rfl rfl ?_
      refine x_get C (Cn := RX5) (T := TX5) (N := 9) (ci := 5) 2 dX5_start_54 m_w_5 m_f_RX5_44 rfl (by decide) rfl rfl ?_
      refine x_iload_n C dX5_start_57 rfl rfl ?_
      refine x_aald C 4 (Cn := "LimbKernel$Numeral") dX5_start_58 rfl rfl (by omega) (by omega) rfl ?_
      try rw [Int.toNat_natCast]
      refine x_iconst C dX5_start_59 ?_
      refine k_putN C (ty := .boolean) 1 (by decide) dX5_start_60 m_f_RX5_204 rfl (by decide +kernel) (by decide) (by decide) (by omega) ?_
      refine x_aload_n C dX5_start_63 rfl rfl ?_
      refine x_get C (Cn := RX5) (T := TX5) (N := 9) (ci := 5) 2 dX5_start_64 m_w_5 m_f_RX5_44 rfl (by decide) rfl rfl ?_
      refine x_iload_n C dX5_start_67 rfl rfl ?_
      refine x_aald C 4 (Cn := "LimbKernel$Numeral") dX5_start_68 rfl rfl (by omega) (by omega) rfl ?_
      try rw [Int.toNat_natCast]
      refine x_iconst C dX5_start_69 ?_
      refine k_putN C (ty := .int) 5 (by decide) dX5_start_70 m_f_RX5_98 rfl (by decide +kernel) rfl rfl (by omega) ?_
      refine x_aload_n C dX5_start_73 rfl rfl ?_
      refine x_iload_n C dX5_start_74 rfl rfl ?_
      refine k_putJ C 5 (by decide) dX5_start_75 m_f_RX5_113 rfl (by decide +kernel) (by omega) (by omega) ?_
      obtain ⟨σ3, hσ3⟩ : ∃ σ3, σ3 = up (up (up σ2 (10 + h) 1 1) (10 + h) 5 1) (40 + j) 5 (h : Int) := ⟨_, rfl⟩
      rw [← hσ3]
      have e9 : σ3 (40 + j) 9 = σ (40 + j) 9 := by rw [hσ3, up_s, zup_n (by decide), up_n (by omega), up_n (by omega), e40]
      have e3 : σ3 3 = σ1 3 := by rw [hσ3, up_n (by omega), up_n (by omega), up_n (by omega), e34 3 (by omega)]
      have e4 : σ3 4 = σ1 4 := by rw [hσ3, up_n (by omega), up_n (by omega), up_n (by omega), e34 4 (by omega)]
      refine x_aload_n C dX5_start_78 rfl rfl ?_
      refine x_get C (Cn := RX0) (T := TX0) (N := 11) (ci := 0) 9 dX5_start_79 m_w_0 m_f_RX5_235 rfl (by decide) (kc_job (by omega) (by omega)) rfl ?_
      rw [e9]
      refine x_iconst C dX5_start_82 ?_
      refine x_icmp_eq (tgt := 101) C dX5_start_83 (by decide) (by omega) (by omega) (fun c_83 => ?_) (fun c_83 => ?_)
      · refine x_aload_n C dX5_start_101 rfl rfl ?_
        refine x_iconst C dX5_start_102 ?_
        refine k_putJ C 0 (by decide) dX5_start_103 m_f_RX5_141 rfl (by decide +kernel) (by omega) (by omega) ?_
        exact x_vret C dX5_start_106 ⟨_, rfl, rfl, Or.inr ⟨hcg, h, A, σ1, σ2, ⟨hh1, hh2, hh3⟩, hgv', hAn, hoc, by
            subst hσ3
            first
            | exact Or.inl ⟨c_83, rfl⟩
            | exact Or.inr ⟨o2, r2, σ4, e2, hgv2, rfl⟩⟩⟩
      · refine x_aload_n C dX5_start_86 rfl rfl ?_
        refine x_aload_n C dX5_start_87 rfl rfl ?_
        refine x_get C (Cn := RX5) (T := TX5) (N := 9) (ci := 5) 0 dX5_start_88 m_w_5 m_f_RX5_18 rfl (by decide) rfl rfl ?_
        refine x_aload_n C dX5_start_91 rfl rfl ?_
        obtain ⟨o2, e2, ho2⟩ := hr.resolve_left c_83
        refine x_get C (Cn := RX0) (T := TX0) (N := 11) (ci := 0) 9 dX5_start_92 m_w_0 m_f_RX5_235 rfl (by decide) (kc_job (by omega) (by omega)) rfl ?_
        rw [e9, e2]
        refine x_callV C (ci := 1) (nn := 1) (c_give hg hnp σ3 (by rw [e4]; exact hM1) (fun k hk => by rw [e3, e4]; exact hC1 k hk) o2 (by omega)) g_RX5_86 rfl (by decide +kernel) ⟨by first | decide | omega, by first | decide | omega⟩ rfl rfl rfl rfl rfl (Nat.le_of_ble_eq_true rfl) dX5_start_95 (fun v h1 hp => ?_)
        obtain ⟨σ4, rfl, r2, rfl, hgv2⟩ := hp
        dsimp only [Option.toList, List.cons_append, List.nil_append]
        refine k_putJ C 8 (by decide) dX5_start_98 m_f_RX5_245 rfl (by decide +kernel) (by omega) (by omega) ?_
        refine x_aload_n C dX5_start_101 rfl rfl ?_
        refine x_iconst C dX5_start_102 ?_
        refine k_putJ C 0 (by decide) dX5_start_103 m_f_RX5_141 rfl (by decide +kernel) (by omega) (by omega) ?_
        exact x_vret C dX5_start_106 ⟨_, rfl, rfl, Or.inr ⟨hcg, h, A, σ1, σ2, ⟨hh1, hh2, hh3⟩, hgv', hAn, hoc, by
            subst hσ3
            first
            | exact Or.inl ⟨c_83, rfl⟩
            | exact Or.inr ⟨o2, r2, σ4, e2, hgv2, rfl⟩⟩⟩
    · exact x_vret C dX5_start_28 ⟨_, rfl, rfl, Or.inl ⟨rfl, by
          first
          | (left; rcases hl with ⟨-, e⟩ | ⟨k, e, -⟩; exact e; omega)
          | (right; rcases hx with ⟨e, -⟩ | ⟨-, e⟩; omega; exact e)⟩⟩
