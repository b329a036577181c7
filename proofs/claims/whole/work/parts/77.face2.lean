/-! THE FACE, what changes: run, newNumber, release, forget -/
def RN (g : Nat × Nat × Nat × Nat) (J : St → List Int → Prop) : Nat → St → List Int → St → Int → Prop
  | 0, σ, _, σ', d => σ = σ' ∧ d = 0
  | n + 1, σ, q, σ', d => (q = [] ∧ σ = σ' ∧ d = 0) ∨ ∃ (σ1 : St) (q1 : List Int) (r d1 : Int), TT g σ σ1 q r ∧ r ≠ -1 ∧ J σ1 q1 ∧ RN g J n σ1 q1 σ' d1 ∧ d = d1 + 1
theorem TT.rg {g : Nat × Nat × Nat × Nat} {σ σ' : St} {q : List Int} {r : Int} (h : TT g σ σ' q r) (hJ : g.2.2.2 ≤ 12) : -1 ≤ r ∧ r < 12 := by
  rcases h with ⟨-, e, -⟩ | ⟨j, q', -, e, e2, -⟩ <;> omega
theorem TT.nil {g : Nat × Nat × Nat × Nat} {σ σ' : St} {q : List Int} {r : Int} (h : TT g σ σ' q r) (hr : r = -1) : q = [] ∧ σ = σ' := by
  rcases h with ⟨e1, -, e⟩ | ⟨j, q', -, e, e2, -⟩
  · exact ⟨e1, e⟩
  · omega
set_option maxHeartbeats 4000000 in
set_option maxRecDepth 100000 in
theorem lp_run {p : Program} {l : Launch} {e : Env} {R : Room} {s : State} {m : MethodId} {args : Array Value} {below : List Frame} {meth : Method} {c : Code} {D : va_G} {ad : Nat → Nat} {g : Nat × Nat × Nat × Nat} {Q : State → Prop} (C : Fx p s m args meth c D ad cX5_run 3 (some .int) yX5_run.cls tb) (hg : 3 ≤ g.1 ∧ g.1 ≤ 11 ∧ 8 ≤ g.2.1 ∧ g.2.1 ≤ 2048 ∧ 1 ≤ g.2.2.1 ∧ g.2.2.1 ≤ 24 ∧ 1 ≤ g.2.2.2 ∧ g.2.2.2 ≤ 12) (hnp : g.2.1 = 2 ^ g.1) (hR : 6 ≤ R.frames ∧ 300 ≤ R.locals) (J : St → List Int → Prop) (hJ1 : ∀ σ q, J σ q → TPre g σ q) (hJ2 : ∀ σ σ' q r, J σ q → TT g σ σ' q r → r ≠ -1 → ∃ q', J σ' q') (N : Nat) (hN : N ≤ 5000) (k i : Nat) (hi : i + k = N) (σ : St) (q : List Int) (hq : J σ q) (K : ∀ (σ' : St) (d : Int) pc lv, (pc = 29 ∨ pc = 37) → RN g J k σ q σ' d → X p l e R s m args below meth c D ad 3 Q (kc D ad g σ') pc lv [vi ((i : Int) + d)]) : X p l e R s m args below meth c D ad 3 Q (kc D ad g σ) 15 [(2, vi (i : Int)), (0, .ref (ad 0)), (1, vi (N : Int))] [] := by
  induction k generalizing i σ q with
  | zero =>
    refine x_iload_n C dX5_run_15 rfl rfl ?_
    refine x_iload_n C dX5_run_16 rfl rfl ?_
    refine x_icmp_ge (tgt := 36) C dX5_run_17 (by decide) (by omega) (by omega) (fun _ => ?_) (fun c => by omega)
    refine x_iload_n C dX5_run_36 rfl rfl ?_
    have := K σ 0 37
    rw [show (i : Int) + 0 = N by omega] at this
    exact this _ (Or.inr rfl) ⟨rfl, rfl⟩
  | succ k ih =>
  refine x_iload_n C dX5_run_15 rfl rfl ?_
  refine x_iload_n C dX5_run_16 rfl rfl ?_
  refine x_icmp_ge (tgt := 36) C dX5_run_17 (by decide) (by omega) (by omega) (fun c_17 => ?_) (fun c_17 => ?_)
  · omega
  · refine x_aload_n C dX5_run_20 rfl rfl ?_
    refine x_callV C (ci := 5) (nn := 0) (c_takeTurn hg hnp σ q (hJ1 σ q hq)) g_RX5_151 rfl (by decide +kernel) ⟨by first | decide | omega, by first | decide | omega⟩ rfl rfl rfl rfl rfl (Nat.le_of_ble_eq_true rfl) dX5_run_21 (fun v h1 hp => ?_)
    obtain ⟨σ1, rfl, r, rfl, hr⟩ := hp
    dsimp only [Option.toList, List.cons_append, List.nil_append]
    have hrr := hr.rg (by omega)
    refine x_iconst C dX5_run_24 ?_
    refine x_icmp_ne (tgt := 30) C dX5_run_25 (by decide) (by omega) (by omega) (fun c_25 => ?_) (fun c_25 => ?_)
    · obtain ⟨q1, hq1⟩ := hJ2 σ σ1 q r hq hr c_25
      refine x_iinc C (lv' := [(2, _), (0, _), (1, _)]) dX5_run_30 rfl (by decide) rfl ?_
      refine x_goto (tgt := 15) C dX5_run_33 (by decide) ?_
      rw [show (i : Int) + 1 = ((i + 1 : Nat) : Int) by omega]
      refine ih (i + 1) (by omega) σ1 q1 hq1 ?_
      intro σ2 d pc lv hpc hrn
      have := K σ2 (d + 1) pc lv hpc (Or.inr ⟨σ1, q1, r, d, hr, c_25, hq1, hrn, rfl⟩)
      rwa [show (i : Int) + (d + 1) = ((i + 1 : Nat) : Int) + d by omega] at this
    · refine x_iload_n C dX5_run_28 rfl rfl ?_
      obtain ⟨rfl, rfl⟩ := hr.nil c_25
      have := K σ 0 29
      rw [show (i : Int) + 0 = i by omega] at this
      exact this _ (Or.inl rfl) (Or.inl ⟨rfl, rfl, rfl⟩)
set_option maxHeartbeats 4000000 in
set_option maxRecDepth 100000 in
theorem c_run {l : Launch} {D : va_G} {ad : Nat → Nat} {g : Nat × Nat × Nat × Nat} (hg : 3 ≤ g.1 ∧ g.1 ≤ 11 ∧ 8 ≤ g.2.1 ∧ g.2.1 ≤ 2048 ∧ 1 ≤ g.2.2.1 ∧ g.2.2.1 ≤ 24 ∧ 1 ≤ g.2.2.2 ∧ g.2.2.2 ≤ 12) (hnp : g.2.1 = 2 ^ g.1) (J : St → List Int → Prop) (hJ1 : ∀ σ q, J σ q → TPre g σ q) (hJ2 : ∀ σ σ' q r, J σ q → TT g σ σ' q r → r ≠ -1 → ∃ q', J σ' q') (σ : St) (q : List Int) (hq : J σ q) (n : Int) (rg_n : -2147483648 ≤ n ∧ n < 2147483648) : Kt l D ad g yX5_run (Cond.code yX5_run cX5_run 3 (some .int) :: tb) 6 300 [.ref (ad 0), vi n] σ (fun v σ' => (¬ (0 ≤ n ∧ n ≤ 5000) ∧ v = some (vi (-1)) ∧ σ = σ') ∨ ((0 ≤ n ∧ n ≤ 5000) ∧ ∃ d : Int, v = some (vi d) ∧ RN g J n.toNat σ q σ' d)) := by
  refine ct_of (by decide) rfl (Nat.le_of_ble_eq_true rfl) ?_
  intro p e s m below meth c C
  change X _ _ _ _ _ _ _ _ _ _ _ _ _ _ _ _ [(0, .ref (ad 0)), (1, vi n)] _
  refine x_iload_n C dX5_run_0 rfl rfl ?_
  refine x_if_lt (tgt := 11) C dX5_run_1 (by decide) (by omega) (fun c_1 => ?_) (fun c_1 => ?_)
  · refine x_iconst C dX5_run_11 ?_
    exact x_iret C dX5_run_12 ⟨_, rfl, Or.inl ⟨by omega, rfl, rfl⟩⟩
  · refine x_iload_n C dX5_run_4 rfl rfl ?_
    refine x_sipush C (z := 5000) dX5_run_5 (by decide) ?_
    refine x_icmp_le (tgt := 13) C dX5_run_8 (by decide) (by omega) (by omega) (fun c_8 => ?_) (fun c_8 => ?_)
    · obtain ⟨N, rfl⟩ : ∃ N : Nat, n = N := ⟨n.toNat, by omega⟩
      refine x_iconst C dX5_run_13 ?_
      refine x_istore_n C (lv' := [(2, _), (0, _), (1, _)]) dX5_run_14 rfl (by decide) rfl ?_
      refine lp_run C hg hnp ⟨by decide, by decide⟩ J hJ1 hJ2 N (by omega) N 0 (by omega) σ q hq ?_
      intro σ' d pc lv hpc hrn
      have e : ((0 : Nat) : Int) + d = d := by omega
      rw [e]
      rcases hpc with rfl | rfl
      · exact x_iret C dX5_run_29 ⟨_, rfl, Or.inr ⟨by omega, d, rfl, by rw [Int.toNat_natCast]; exact hrn⟩⟩
      · exact x_iret C dX5_run_37 ⟨_, rfl, Or.inr ⟨by omega, d, rfl, by rw [Int.toNat_natCast]; exact hrn⟩⟩
    · refine x_iconst C dX5_run_11 ?_
      exact x_iret C dX5_run_12 ⟨_, rfl, Or.inl ⟨by omega, rfl, rfl⟩⟩
def nnP (g : Nat × Nat × Nat × Nat) (σ σ' : St) (n v : Int) : Prop := (¬ (1 ≤ n ∧ n ≤ g.2.1) ∧ v = -2 ∧ σ = σ') ∨ ((1 ≤ n ∧ n ≤ g.2.1) ∧ (((∀ k, k < g.2.2.1 → ¬ σ (10 + k) 0 = 0) ∧ v = -3 ∧ σ = σ') ∨
  ∃ (h o : Nat), (h < g.2.2.1 ∧ σ (10 + h) 0 = 0 ∧ ∀ i, i < h → ¬ σ (10 + i) 0 = 0) ∧ ordP n o ∧ ((gvP g σ σ o (-1) ∧ v = -4 ∧ σ = σ') ∨ (∃ (A : Nat) (σ1 : St), gvP g σ σ1 o A ∧ A + n.toNat ≤ g.2.1 ∧ OCC σ1 σ' h n.toNat o A ∧ v = h))))
set_option maxHeartbeats 4000000 in
set_option maxRecDepth 100000 in
theorem c_newNumber {l : Launch} {D : va_G} {ad : Nat → Nat} {g : Nat × Nat × Nat × Nat} (hg : 3 ≤ g.1 ∧ g.1 ≤ 11 ∧ 8 ≤ g.2.1 ∧ g.2.1 ≤ 2048 ∧ 1 ≤ g.2.2.1 ∧ g.2.2.1 ≤ 24 ∧ 1 ≤ g.2.2.2 ∧ g.2.2.2 ≤ 12) (hnp : g.2.1 = 2 ^ g.1) (σ : St) (hM : MI g.1 (σ 4)) (hC : CN g σ) (hF : FLG g σ) (hU : 0 ≤ σ 0 6 ∧ σ 0 6 ≤ g.2.2.1) (hall : σ 0 6 = g.2.2.1 → ∀ k, k < g.2.2.1 → ¬ σ (10 + k) 0 = 0) (n : Int) (rg_n : -2147483648 ≤ n ∧ n < 2147483648) : Kt l D ad g yX5_newNumber (Cond.code yX5_newNumber cX5_newNumber 5 (some .int) :: tb) 3 140 [.ref (ad 0), vi n] σ (fun v σ' => ∃ r : Int, v = some (vi r) ∧ nnP g σ σ' n r) := by
  refine ct_of (by decide) rfl (Nat.le_of_ble_eq_true rfl) ?_
  intro p e s m below meth c C
  change X _ _ _ _ _ _ _ _ _ _ _ _ _ _ _ _ [(0, .ref (ad 0)), (1, vi n)] _
  refine x_iload_n C dX5_newNumber_0 rfl rfl ?_
  refine x_iconst C dX5_newNumber_1 ?_
  refine x_icmp_lt (tgt := 17) C dX5_newNumber_2 (by decide) (by omega) (by omega) (fun c_2 => ?_) (fun c_2 => ?_)
  · refine x_bipush C (z := (-2)) dX5_newNumber_17 (by decide) ?_
    exact x_iret C dX5_newNumber_19 ⟨_, rfl, _, rfl, Or.inl ⟨by omega, rfl, rfl⟩⟩
  · refine x_iload_n C dX5_newNumber_5 rfl rfl ?_
    refine x_aload_n C dX5_newNumber_6 rfl rfl ?_
    refine x_get C (Cn := RX5) (T := TX5) (N := 9) (ci := 5) 0 dX5_newNumber_7 m_w_5 m_f_RX5_18 rfl (by decide) rfl rfl ?_
    refine x_get C (Cn := RX1) (T := TX1) (N := 4) (ci := 1) 1 dX5_newNumber_10 m_w_1 m_f_RX5_24 rfl (by decide) rfl rfl ?_
    refine x_alen C 0 dX5_newNumber_13 rfl rfl ?_
    refine x_icmp_le (tgt := 20) C dX5_newNumber_14 (by decide) (by omega) (by omega) (fun c_14 => ?_) (fun c_14 => ?_)
    · obtain ⟨N, rfl⟩ : ∃ N : Nat, n = N := ⟨n.toNat, by omega⟩
      refine x_aload_n C dX5_newNumber_20 rfl rfl ?_
      refine x_callV C (ci := 5) (nn := 0) (c_leastFreeHandle hg σ hF hU hall) g_RX5_78 rfl (by decide +kernel) ⟨by first | decide | omega, by first | decide | omega⟩ rfl rfl rfl rfl rfl (Nat.le_of_ble_eq_true rfl) dX5_newNumber_21 (fun v h1 hp => ?_)
      obtain ⟨σ1, rfl, rfl, r, rfl, hl⟩ := hp
      have hlr : -1 ≤ r ∧ r < 24 := by rcases hl with ⟨e, -⟩ | ⟨k, e, e2, -⟩ <;> omega
      dsimp only [Option.toList, List.cons_append, List.nil_append]
      refine x_istore_n C (lv' := [(2, _), (0, _), (1, _)]) dX5_newNumber_24 rfl (by decide) rfl ?_
      refine x_iload_n C dX5_newNumber_25 rfl rfl ?_
      refine x_iconst C dX5_newNumber_26 ?_
      refine x_icmp_ne (tgt := 33) C dX5_newNumber_27 (by decide) (by omega) (by omega) (fun c_27 => ?_) (fun c_27 => ?_)
      · obtain ⟨h, rfl, hh1, hh2, hh3⟩ : ∃ k : Nat, r = k ∧ k < g.2.2.1 ∧ σ (10 + k) 0 = 0 ∧ ∀ i, i < k → ¬ σ (10 + i) 0 = 0 := by
          rcases hl with ⟨e, -⟩ | e
          · exact absurd e c_27
          · exact e
        refine x_iload_n C dX5_newNumber_33 rfl rfl ?_
        refine x_i2l C dX5_newNumber_34 (by omega) ?_
        refine x_callS C (nn := 1) (c_orderFor σ (N : Int) (by omega)) g_RX5_82 rfl (by decide +kernel) ⟨by first | decide | omega, by first | decide | omega⟩ rfl rfl (Nat.le_of_ble_eq_true rfl) dX5_newNumber_35 (fun v h1 hp => ?_)
        obtain ⟨σ1, rfl, rfl, o, rfl, ho1, ho2⟩ := hp
        dsimp only [Option.toList, List.cons_append, List.nil_append]
        refine x_istore_n C (lv' := [(3, _), (2, _), (0, _), (1, _)]) dX5_newNumber_38 rfl (by decide) rfl ?_
        refine x_aload_n C dX5_newNumber_39 rfl rfl ?_
        refine x_get C (Cn := RX5) (T := TX5) (N := 9) (ci := 5) 0 dX5_newNumber_40 m_w_5 m_f_RX5_18 rfl (by decide) rfl rfl ?_
        refine x_iload_n C dX5_newNumber_43 rfl rfl ?_
        refine x_callV C (ci := 1) (nn := 1) (c_give hg hnp σ hM hC o (by omega)) g_RX5_86 rfl (by decide +kernel) ⟨by first | decide | omega, by first | decide | omega⟩ rfl rfl rfl rfl rfl (Nat.le_of_ble_eq_true rfl) dX5_newNumber_44 (fun v h1 hp => ?_)
        obtain ⟨σ1, rfl, r1, rfl, hgv⟩ := hp
        have hgr : -1 ≤ r1 ∧ r1 < 2048 := by rcases hgv with ⟨e, -⟩ | ⟨a, d, e, e2, -⟩ <;> omega
        dsimp only [Option.toList, List.cons_append, List.nil_append]
        refine x_istore C (lv' := [(4, _), (3, _), (2, _), (0, _), (1, _)]) dX5_newNumber_47 (by decide) rfl ?_
        refine x_iload C dX5_newNumber_49 rfl ?_
        refine x_iconst C dX5_newNumber_51 ?_
        refine x_icmp_ne (tgt := 58) C dX5_newNumber_52 (by decide) (by omega) (by omega) (fun c_52 => ?_) (fun c_52 => ?_)
        · obtain ⟨A, d, rfl, hA1, hA2, hA3, hA4, hA5, hC1, hrow1⟩ : ∃ a d : Nat, r1 = a ∧ a < g.2.1 ∧ σ 4 a = ((o + d : Nat) : Int) ∧ (∀ b, b < g.2.1 → (o : Int) ≤ σ 4 b → ((o + d : Nat) : Int) ≤ σ 4 b) ∧ (∀ b, b < a → σ 4 b ≠ ((o + d : Nat) : Int)) ∧ σ1 4 = splF (zup (σ 4) a (-1)) a o d ∧ CN g σ1 ∧ ∀ q, q ≠ 3 → q ≠ 4 → σ1 q = σ q := by
            rcases hgv with ⟨e, -⟩ | e
            · exact absurd e c_52
            · exact e
          have hgv' : gvP g σ σ1 o A := Or.inr ⟨A, d, rfl, hA1, hA2, hA3, hA4, hA5, hC1, hrow1⟩
          have hB1 := (HB.spl (by omega) (hM.rem (a := A)) (HB.take hM (show A < 2 ^ g.1 by omega) hA2)).2
          have hAn : A + N ≤ g.2.1 := by
            have h1 := hB1.2.1
            have h2 : ((N : Nat) : Int) ≤ ((2 ^ o : Nat) : Int) := by push_cast; exact ho1.1
            omega
          refine x_aload_n C dX5_newNumber_58 rfl rfl ?_
          refine x_iload_n C dX5_newNumber_59 rfl rfl ?_
          refine x_iload_n C dX5_newNumber_60 rfl rfl ?_
          refine x_iload_n C dX5_newNumber_61 rfl rfl ?_
          refine x_iload C dX5_newNumber_62 rfl ?_
          refine x_callV C (ci := 5) (nn := 4) (c_occupy hg σ1 h N o A hh1 hAn) g_RX5_90 rfl (by decide +kernel) ⟨by first | decide | omega, by first | decide | omega⟩ rfl rfl rfl rfl rfl (Nat.le_of_ble_eq_true rfl) dX5_newNumber_64 (fun v h1 hp => ?_)
          obtain ⟨σ2, rfl, rfl, hoc⟩ := hp
          refine x_iload_n C dX5_newNumber_67 rfl rfl ?_
          exact x_iret C dX5_newNumber_68 ⟨_, rfl, _, rfl, Or.inr ⟨by omega, Or.inr ⟨h, o, ⟨hh1, hh2, hh3⟩, ho1, Or.inr ⟨A, σ1, hgv', by rw [Int.toNat_natCast]; exact hAn, by rw [Int.toNat_natCast]; exact hoc, rfl⟩⟩⟩⟩
        · refine x_bipush C (z := (-4)) dX5_newNumber_55 (by decide) ?_
          exact x_iret C dX5_newNumber_57 ⟨_, rfl, _, rfl, Or.inr ⟨by omega, Or.inr ⟨h, o, ⟨hh1, hh2, hh3⟩, ho1, Or.inl (by
              rcases hgv with ⟨e, rfl, e2⟩ | ⟨a, d, e, -⟩
              · exact ⟨Or.inl ⟨rfl, rfl, e2⟩, rfl, rfl⟩
              · omega)⟩⟩⟩
      · refine x_bipush C (z := (-3)) dX5_newNumber_30 (by decide) ?_
        exact x_iret C dX5_newNumber_32 ⟨_, rfl, _, rfl, Or.inr ⟨by omega, Or.inl ⟨by rcases hl with ⟨-, e⟩ | ⟨k, e, -⟩; exact e; omega, rfl, rfl⟩⟩⟩
    · refine x_bipush C (z := (-2)) dX5_newNumber_17 (by decide) ?_
      exact x_iret C dX5_newNumber_19 ⟨_, rfl, _, rfl, Or.inl ⟨by omega, rfl, rfl⟩⟩
/-- the results that are h are none now, of the jobs below n -/
def clrU (σ : St) (h : Int) (n : Nat) : St := fun q => if 40 ≤ q ∧ q < 40 + n ∧ σ q 5 = h then zup (σ q) 5 (-1) else σ q
theorem clrU_0 (σ : St) (h : Int) : clrU σ h 0 = σ := by funext q; unfold clrU; rw [if_neg (by omega)]
theorem clrU_lo {σ : St} {h : Int} {n q : Nat} (hq : q < 40 ∨ 40 + n ≤ q) : clrU σ h n q = σ q := by unfold clrU; rw [if_neg (by omega)]
theorem clrU_y {σ : St} {h : Int} {i : Nat} (e : σ (40 + i) 5 = h) : up (clrU σ h i) (40 + i) 5 (-1) = clrU σ h (i + 1) := by
  funext q
  by_cases c : q = 40 + i
  · rw [c, up_s, clrU_lo (by omega)]; unfold clrU; rw [if_pos ⟨by omega, by omega, e⟩]
  · rw [up_n c]; unfold clrU
    by_cases c2 : 40 ≤ q ∧ q < 40 + i ∧ σ q 5 = h
    · rw [if_pos c2, if_pos ⟨c2.1, by omega, c2.2.2⟩]
    · rw [if_neg c2, if_neg (fun z => c2 ⟨z.1, by omega, z.2.2⟩)]
theorem clrU_n {σ : St} {h : Int} {i : Nat} (e : σ (40 + i) 5 ≠ h) : clrU σ h i = clrU σ h (i + 1) := by
  funext q
  unfold clrU
  by_cases c : q = 40 + i
  · rw [c, if_neg (by omega), if_neg (fun z => e z.2.2)]
  · by_cases c2 : 40 ≤ q ∧ q < 40 + i ∧ σ q 5 = h
    · rw [if_pos c2, if_pos ⟨c2.1, by omega, c2.2.2⟩]
    · rw [if_neg c2, if_neg (fun z => c2 ⟨z.1, by omega, z.2.2⟩)]
set_option maxHeartbeats 4000000 in
set_option maxRecDepth 100000 in
theorem lp_release {p : Program} {l : Launch} {e : Env} {R : Room} {s : State} {m : MethodId} {args : Array Value} {below : List Frame} {meth : Method} {c : Code} {D : va_G} {ad : Nat → Nat} {g : Nat × Nat × Nat × Nat} {Q : State → Prop} (C : Fx p s m args meth c D ad cX5_release 3 (some .boolean) yX5_release.cls tb) (hg : 3 ≤ g.1 ∧ g.1 ≤ 11 ∧ 8 ≤ g.2.1 ∧ g.2.1 ≤ 2048 ∧ 1 ≤ g.2.2.1 ∧ g.2.2.1 ≤ 24 ∧ 1 ≤ g.2.2.2 ∧ g.2.2.2 ≤ 12) (σ : St) (hRs : ∀ j, j < g.2.2.2 → -1 ≤ σ (40 + j) 5 ∧ σ (40 + j) 5 ≤ 23) (h : Nat) (hh : h < g.2.2.1) (K : ∀ lv, lk 0 lv = some (.ref (ad 0)) → lk 1 lv = some (vi (h : Int)) → X p l e R s m args below meth c D ad 3 Q (kc D ad g (clrU σ h g.2.2.2)) 62 lv []) (n i : Nat) (hn : g.2.2.2 - i < n) (hi : i ≤ g.2.2.2) : X p l e R s m args below meth c D ad 3 Q (kc D ad g (clrU σ h i)) 24 [(2, vi (i : Int)), (0, .ref (ad 0)), (1, vi (h : Int))] [] := by
  induction n generalizing i with
  | zero => omega
  | succ n ih =>
  refine x_iload_n C dX5_release_24 rfl rfl ?_
  refine x_aload_n C dX5_release_25 rfl rfl ?_
  refine x_get C (Cn := RX5) (T := TX5) (N := 9) (ci := 5) 3 dX5_release_26 m_w_5 m_f_RX5_37 rfl (by decide) rfl rfl ?_
  refine x_alen C 3 dX5_release_29 rfl rfl ?_
  refine x_icmp_ge (tgt := 62) C dX5_release_30 (by decide) (by omega) (by omega) (fun c_30 => ?_) (fun c_30 => ?_)
  · obtain rfl : i = g.2.2.2 := by omega
    exact K _ rfl rfl
  · refine x_aload_n C dX5_release_33 rfl rfl ?_
    refine x_get C (Cn := RX5) (T := TX5) (N := 9) (ci := 5) 3 dX5_release_34 m_w_5 m_f_RX5_37 rfl (by decide) rfl rfl ?_
    refine x_iload_n C dX5_release_37 rfl rfl ?_
    refine x_aald C 3 (Cn := "LimbKernel$Job") dX5_release_38 rfl rfl (by omega) (by omega) rfl ?_
    try rw [Int.toNat_natCast]
    refine x_get C (Cn := RX0) (T := TX0) (N := 11) (ci := 0) 5 dX5_release_39 m_w_0 m_f_RX5_113 rfl (by decide) (kc_job (by omega) (by omega)) rfl ?_
    have hr := hRs i (by omega)
    rw [clrU_lo (by omega)]
    refine x_iload_n C dX5_release_42 rfl rfl ?_
    refine x_icmp_ne (tgt := 56) C dX5_release_43 (by decide) (by omega) (by omega) (fun c_43 => ?_) (fun c_43 => ?_)
    · refine x_iinc C (lv' := [(2, _), (0, _), (1, _)]) dX5_release_56 rfl (by decide) rfl ?_
      refine x_goto (tgt := 24) C dX5_release_59 (by decide) ?_
      rw [show (i : Int) + 1 = ((i + 1 : Nat) : Int) by omega]
      first
      | (rw [clrU_y c_43]; exact ih (i + 1) (by omega) (by omega))
      | (rw [clrU_n c_43]; exact ih (i + 1) (by omega) (by omega))
    · refine x_aload_n C dX5_release_46 rfl rfl ?_
      refine x_get C (Cn := RX5) (T := TX5) (N := 9) (ci := 5) 3 dX5_release_47 m_w_5 m_f_RX5_37 rfl (by decide) rfl rfl ?_
      refine x_iload_n C dX5_release_50 rfl rfl ?_
      refine x_aald C 3 (Cn := "LimbKernel$Job") dX5_release_51 rfl rfl (by omega) (by omega) rfl ?_
      try rw [Int.toNat_natCast]
      refine x_iconst C dX5_release_52 ?_
      refine k_putJ C 5 (by decide) dX5_release_53 m_f_RX5_113 rfl (by decide +kernel) (by omega) (by omega) ?_
      refine x_iinc C (lv' := [(2, _), (0, _), (1, _)]) dX5_release_56 rfl (by decide) rfl ?_
      refine x_goto (tgt := 24) C dX5_release_59 (by decide) ?_
      rw [show (i : Int) + 1 = ((i + 1 : Nat) : Int) by omega]
      first
      | (rw [clrU_y c_43]; exact ih (i + 1) (by omega) (by omega))
      | (rw [clrU_n c_43]; exact ih (i + 1) (by omega) (by omega))
set_option maxHeartbeats 4000000 in
set_option maxRecDepth 100000 in
theorem c_release {l : Launch} {D : va_G} {ad : Nat → Nat} {g : Nat × Nat × Nat × Nat} (hg : 3 ≤ g.1 ∧ g.1 ≤ 11 ∧ 8 ≤ g.2.1 ∧ g.2.1 ≤ 2048 ∧ 1 ≤ g.2.2.1 ∧ g.2.2.1 ≤ 24 ∧ 1 ≤ g.2.2.2 ∧ g.2.2.2 ≤ 12) (hnp : g.2.1 = 2 ^ g.1) (σ : St) (hM : MI g.1 (σ 4)) (hC : CN g σ) (hF : FLG g σ) (hN : NUM g σ) (hRs : ∀ j, j < g.2.2.2 → -1 ≤ σ (40 + j) 5 ∧ σ (40 + j) 5 ≤ 23) (hB : ∀ k, k < g.2.2.1 → σ (10 + k) 0 = 1 → ∃ A o : Nat, σ (10 + k) 3 = A ∧ σ (10 + k) 4 = o ∧ BLK g σ A o) (h : Int) (rg_h : -2147483648 ≤ h ∧ h < 2147483648) : Kt l D ad g yX5_release (Cond.code yX5_release cX5_release 3 (some .boolean) :: tb) 3 140 [.ref (ad 0), vi h] σ (fun v σ' => (¬ (isNm g σ h ∧ ¬ 0 < σ (10 + h.toNat) 5) ∧ v = some (vi 0) ∧ σ = σ') ∨ (v = some (vi 1) ∧ ∃ n A o : Nat, h = n ∧ n < g.2.2.1 ∧ σ (10 + n) 0 = 1 ∧ ¬ 0 < σ (10 + n) 5 ∧ σ (10 + n) 3 = A ∧ σ (10 + n) 4 = o ∧ VAC g (clrU σ n g.2.2.2) σ' n A o)) := by
  refine ct_of (by decide) rfl (Nat.le_of_ble_eq_true rfl) ?_
  intro p e s m below meth c C
  change X _ _ _ _ _ _ _ _ _ _ _ _ _ _ _ _ [(0, .ref (ad 0)), (1, vi h)] _
  refine x_aload_n C dX5_release_0 rfl rfl ?_
  refine x_iload_n C dX5_release_1 rfl rfl ?_
  refine x_callV C (ci := 5) (nn := 1) (c_isNumber hg σ hF h rg_h) g_RX5_94 rfl (by decide +kernel) ⟨by first | decide | omega, by first | decide | omega⟩ rfl rfl rfl rfl rfl (Nat.le_of_ble_eq_true rfl) dX5_release_2 (fun v h1 hp => ?_)
  obtain ⟨σ1, rfl, rfl, x, rfl, hx⟩ := hp
  have hxr := hx.rg
  dsimp only [Option.toList, List.cons_append, List.nil_append]
  refine x_if_eq (tgt := 20) C dX5_release_5 (by decide) (by omega) (fun c_5 => ?_) (fun c_5 => ?_)
  · refine x_iconst C dX5_release_20 ?_
    exact x_zret C dX5_release_21 (by decide) ⟨_, rfl, Or.inl ⟨fun z => hx.neg c_5 z.1, rfl, rfl⟩⟩
  · obtain ⟨n, rfl, hn, hu⟩ := hx.yes c_5
    obtain ⟨A0, sz, hNM, hpin⟩ := hN n hn hu
    refine x_aload_n C dX5_release_8 rfl rfl ?_
    refine x_get C (Cn := RX5) (T := TX5) (N := 9) (ci := 5) 2 dX5_release_9 m_w_5 m_f_RX5_44 rfl (by decide) rfl rfl ?_
    refine x_iload_n C dX5_release_12 rfl rfl ?_
    refine x_aald C 4 (Cn := "LimbKernel$Numeral") dX5_release_13 rfl rfl (by omega) (by omega) rfl ?_
    try rw [Int.toNat_natCast]
    refine x_get C (Cn := RX2) (T := TX2) (N := 6) (ci := 2) 5 dX5_release_14 m_w_2 m_f_RX5_98 rfl (by decide) (kc_num (by omega)) rfl ?_
    refine x_if_le (tgt := 22) C dX5_release_17 (by decide) (by omega) (fun c_17 => ?_) (fun c_17 => ?_)
    · refine x_iconst C dX5_release_22 ?_
      refine x_istore_n C (lv' := [(2, _), (0, _), (1, _)]) dX5_release_23 rfl (by decide) rfl ?_
      obtain ⟨A, o, e3, e4, hBk⟩ := hB n hn hu
      refine X.eqh (congrArg (kc D ad g) (clrU_0 σ (n : Int)).symm) ?_
      refine lp_release C hg σ hRs n hn ?_ (g.2.2.2 + 1) 0 (by omega) (by omega)
      intro lv k0 k1
      have lo : ∀ q, q < 40 → clrU σ (n : Int) g.2.2.2 q = σ q := fun q hq => clrU_lo (Or.inl hq)
      refine x_aload_n C dX5_release_62 rfl k0 ?_
      refine x_iload_n C dX5_release_63 rfl k1 ?_
      refine x_callV C (ci := 5) (nn := 1) (c_vacate hg hnp (clrU σ (n : Int) g.2.2.2) (by rw [lo 4 (by decide)]; exact hM) (fun k hk => by rw [lo 3 (by decide), lo 4 (by decide)]; exact hC k hk) n A o hn (by rw [lo _ (by omega)]; exact e3) (by rw [lo _ (by omega)]; exact e4) (by unfold BLK; rw [lo 4 (by decide)]; exact hBk)) g_RX5_116 rfl (by decide +kernel) ⟨by first | decide | omega, by first | decide | omega⟩ rfl rfl rfl rfl rfl (Nat.le_of_ble_eq_true rfl) dX5_release_64 (fun v h1 hp => ?_)
      obtain ⟨σ2, rfl, rfl, hv⟩ := hp
      refine x_iconst C dX5_release_67 ?_
      exact x_zret C dX5_release_68 (by decide) ⟨_, rfl, Or.inr ⟨rfl, n, A, o, rfl, hn, hu, by omega, e3, e4, hv⟩⟩
    · refine x_iconst C dX5_release_20 ?_
      exact x_zret C dX5_release_21 (by decide) ⟨_, rfl, Or.inl ⟨fun z => z.2 (by (try rw [Int.toNat_natCast]); omega), rfl, rfl⟩⟩
set_option maxHeartbeats 4000000 in
set_option maxRecDepth 100000 in
theorem c_forget {l : Launch} {D : va_G} {ad : Nat → Nat} {g : Nat × Nat × Nat × Nat} (hg : 3 ≤ g.1 ∧ g.1 ≤ 11 ∧ 8 ≤ g.2.1 ∧ g.2.1 ≤ 2048 ∧ 1 ≤ g.2.2.1 ∧ g.2.2.1 ≤ 24 ∧ 1 ≤ g.2.2.2 ∧ g.2.2.2 ≤ 12) (σ : St) (hS : STT g σ) (j : Int) (rg_j : -2147483648 ≤ j ∧ j < 2147483648) : Kt l D ad g yX5_forget (Cond.code yX5_forget cX5_forget 2 (some .boolean) :: tb) 1 60 [.ref (ad 0), vi j] σ (fun v σ' => (¬ (isJb g σ j ∧ 2 ≤ σ (40 + j.toNat) 0) ∧ v = some (vi 0) ∧ σ = σ') ∨ (v = some (vi 1) ∧ ∃ n : Nat, j = n ∧ n < g.2.2.2 ∧ 2 ≤ σ (40 + n) 0 ∧ σ' = up (up (up (up σ (40 + n) 0 (-1)) (40 + n) 5 (-1)) (40 + n) 8 (-1)) 0 7 (σ 0 7 - 1))) := by
  refine ct_of (by decide) rfl (Nat.le_of_ble_eq_true rfl) ?_
  intro p e s m below meth c C
  change X _ _ _ _ _ _ _ _ _ _ _ _ _ _ _ _ [(0, .ref (ad 0)), (1, vi j)] _
  refine x_aload_n C dX5_forget_0 rfl rfl ?_
  refine x_iload_n C dX5_forget_1 rfl rfl ?_
  refine x_callV C (ci := 5) (nn := 1) (c_isJob hg σ hS j rg_j) g_RX5_154 rfl (by decide +kernel) ⟨by first | decide | omega, by first | decide | omega⟩ rfl rfl rfl rfl rfl (Nat.le_of_ble_eq_true rfl) dX5_forget_2 (fun v h1 hp => ?_)
  obtain ⟨σ1, rfl, rfl, x, rfl, hx⟩ := hp
  have hxr := hx.rg
  dsimp only [Option.toList, List.cons_append, List.nil_append]
  refine x_if_eq (tgt := 20) C dX5_forget_5 (by decide) (by omega) (fun c_5 => ?_) (fun c_5 => ?_)
  · refine x_iconst C dX5_forget_20 ?_
    exact x_zret C dX5_forget_21 (by decide) ⟨_, rfl, Or.inl ⟨fun z => hx.neg c_5 z.1, rfl, rfl⟩⟩
  · obtain ⟨n, rfl, hn, hu⟩ := hx.yes c_5
    have hst := hS n hn
    refine x_aload_n C dX5_forget_8 rfl rfl ?_
    refine x_get C (Cn := RX5) (T := TX5) (N := 9) (ci := 5) 3 dX5_forget_9 m_w_5 m_f_RX5_37 rfl (by decide) rfl rfl ?_
    refine x_iload_n C dX5_forget_12 rfl rfl ?_
    refine x_aald C 3 (Cn := "LimbKernel$Job") dX5_forget_13 rfl rfl (by omega) (by omega) rfl ?_
    try rw [Int.toNat_natCast]
    refine x_callV C (ci := 0) (nn := 0) (c_isQueued hg σ n hn hst) g_RX5_163 rfl (by decide +kernel) ⟨by first | decide | omega, by first | decide | omega⟩ rfl rfl (kc_job (by omega) (by omega)) rfl rfl (Nat.le_of_ble_eq_true rfl) dX5_forget_14 (fun v h1 hp => ?_)
    obtain ⟨σ1, rfl, rfl, rfl⟩ := hp
    dsimp only [Option.toList, List.cons_append, List.nil_append]
    refine x_if_eq (tgt := 22) C dX5_forget_17 (by decide) (by split <;> omega) (fun c_17 => ?_) (fun c_17 => ?_)
    · have h2 : 2 ≤ σ (40 + n) 0 := by
        by_cases c : σ (40 + n) 0 = 0 ∨ σ (40 + n) 0 = 1
        · rw [if_pos c] at c_17; omega
        · omega
      refine x_aload_n C dX5_forget_22 rfl rfl ?_
      refine x_get C (Cn := RX5) (T := TX5) (N := 9) (ci := 5) 3 dX5_forget_23 m_w_5 m_f_RX5_37 rfl (by decide) rfl rfl ?_
      refine x_iload_n C dX5_forget_26 rfl rfl ?_
      refine x_aald C 3 (Cn := "LimbKernel$Job") dX5_forget_27 rfl rfl (by omega) (by omega) rfl ?_
      try rw [Int.toNat_natCast]
      refine x_callV C (ci := 0) (nn := 0) (c_jobClear hg σ n hn) g_RX5_74 rfl (by decide +kernel) ⟨by first | decide | omega, by first | decide | omega⟩ rfl rfl (kc_job (by omega) (by omega)) rfl rfl (Nat.le_of_ble_eq_true rfl) dX5_forget_28 (fun v h1 hp => ?_)
      obtain ⟨σ1, rfl, rfl, rfl⟩ := hp
      refine x_aload_n C dX5_forget_31 rfl rfl ?_
      refine x_dup C dX5_forget_32 rfl ?_
      refine x_get C (Cn := RX5) (T := TX5) (N := 9) (ci := 5) 7 dX5_forget_33 m_w_5 m_f_RX5_60 rfl (by decide) rfl rfl ?_
      refine x_iconst C dX5_forget_36 ?_
      refine x_isub C dX5_forget_37 ?_
      refine k_putS C (Cn := RX5) (T := TX5) (N := 9) (ci := 5) (ty := .int) 7 dX5_forget_38 m_w_5 m_f_RX5_60 rfl (by decide) tyX5 tyX5_ok nmX5 rfl (by decide +kernel) rfl rfl rfl (Nat.le_of_ble_eq_true rfl) rfl ?_
      refine x_iconst C dX5_forget_41 ?_
      exact x_zret C dX5_forget_42 (by decide) ⟨_, rfl, Or.inr ⟨rfl, n, rfl, hn, h2, by rw [up_n (show 0 ≠ 40 + n by omega), up_n (show 0 ≠ 40 + n by omega), up_n (show 0 ≠ 40 + n by omega)]⟩⟩
    · refine x_iconst C dX5_forget_20 ?_
      exact x_zret C dX5_forget_21 (by decide) ⟨_, rfl, Or.inl ⟨fun z => by have := z.2; (try rw [Int.toNat_natCast] at this); rw [if_neg (by omega)] at c_17; omega, rfl, rfl⟩⟩
