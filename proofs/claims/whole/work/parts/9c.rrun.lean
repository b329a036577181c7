/-! THE REFERENCE'S RUN -/
theorem TR.rg {g : Nat × Nat × Nat × Nat} {ρ ρ' : St} {q : List Int} {r : Int} (h : TR g ρ ρ' q r) : -1 ≤ r ∧ r < 12 := by
  rcases h with ⟨-, e, -⟩ | ⟨j, q', -, e, e2, -⟩ <;> omega
set_option maxHeartbeats 4000000 in
set_option maxRecDepth 100000 in
theorem rp_run {p : Program} {l : Launch} {e : Env} {R : Room} {s : State} {m : MethodId} {args : Array Value} {below : List Frame} {meth : Method} {c : Code} {D : va_G} {ad : Nat → Nat} {Q : State → Prop} (C : Fx p s m args meth c D ad cX6_run 4 (some .int) yX6_run.cls tb) {g : Nat × Nat × Nat × Nat} (hg : 3 ≤ g.1 ∧ g.1 ≤ 11 ∧ 8 ≤ g.2.1 ∧ g.2.1 ≤ 2048 ∧ 1 ≤ g.2.2.1 ∧ g.2.2.1 ≤ 24 ∧ 1 ≤ g.2.2.2 ∧ g.2.2.2 ≤ 12) (hnp : g.2.1 = 2 ^ g.1) (hR : 7 ≤ R.frames ∧ 320 ≤ R.locals) (J : Nat → St → List Int → Prop) (hJ1 : ∀ k ρ q, J (k + 1) ρ q → TPr g ρ q) (hJ2 : ∀ k ρ ρ' q r, J (k + 1) ρ q → TR g ρ ρ' q r → r ≠ -1 → ∃ q', J k ρ' q') (N : Nat) (hN : N ≤ 5000) (k i : Nat) (hi : i + k = N) (ρ : St) (q : List Int) (hq : J k ρ q) (K : ∀ (k' : Nat) (ρ' : St) (q' : List Int) lv, k' ≤ N → J k' ρ' q' → (k' = 0 ∨ q' = []) → X p l e R s m args below meth c D ad 4 Q (rc D ad ρ') 39 lv [vi ((N : Int) - k')]) : X p l e R s m args below meth c D ad 4 Q (rc D ad ρ) 15 [(2, vi (i : Int)), (0, .ref (ad 0)), (1, vi (N : Int))] [] := by
  induction k generalizing i ρ q with
  | zero =>
    refine x_iload_n C dX6_run_15 rfl rfl ?_
    refine x_iload_n C dX6_run_16 rfl rfl ?_
    refine x_icmp_ge (tgt := 38) C dX6_run_17 (by decide) (by omega) (by omega) (fun _ => ?_) (fun c => by omega)
    refine x_iload_n C dX6_run_38 rfl rfl ?_
    have := K 0 ρ q
    rw [show (N : Int) - ((0 : Nat) : Int) = i by omega] at this
    exact this _ (by omega) hq (Or.inl rfl)
  | succ k ih =>
  refine x_iload_n C dX6_run_15 rfl rfl ?_
  refine x_iload_n C dX6_run_16 rfl rfl ?_
  refine x_icmp_ge (tgt := 38) C dX6_run_17 (by decide) (by omega) (by omega) (fun c_17 => ?_) (fun c_17 => ?_)
  · omega
  · refine x_aload_n C dX6_run_20 rfl rfl ?_
    refine x_get C (Cn := RX6) (T := TX6) (N := 33) (ci := 6) 22 dX6_run_21 m_w_6 m_f_RX6_101 rfl (by decide) rfl rfl ?_
    have hP := hJ1 k ρ q hq
    have hQ := hP.2.2.2.2.1
    rw [hQ.1]
    have hQl := hQ.2.1
    refine x_if_le (tgt := 38) C dX6_run_24 (by decide) (by omega) (fun c_24 => ?_) (fun c_24 => ?_)
    · refine x_iload_n C dX6_run_38 rfl rfl ?_
      have := K (k + 1) ρ q
      rw [show (N : Int) - ((k + 1 : Nat) : Int) = i by omega] at this
      exact this _ (by omega) hq (Or.inr (List.length_eq_zero_iff.mp (by omega)))
    · refine x_aload_n C dX6_run_27 rfl rfl ?_
      refine x_callV C (ci := 6) (nn := 0) (r_tick hg hnp ρ q hP) g_RX6_171 rfl (by decide +kernel) ⟨by first | decide | omega, by first | decide | omega⟩ rfl rfl rfl rfl rfl (Nat.le_of_ble_eq_true rfl) dX6_run_28 (fun v h1 hp => ?_)
      obtain ⟨ρ1, rfl, r, rfl, hr⟩ := hp
      dsimp only [Option.toList, List.cons_append, List.nil_append]
      have hrr := hr.rg
      obtain ⟨q1, hq1⟩ := hJ2 k ρ ρ1 q r hq hr (by
        rcases hr with ⟨e, -, -⟩ | ⟨j, q', -, e, -, -⟩
        · rw [e] at c_24; exact absurd (Int.le_refl 0) c_24
        · omega)
      refine x_istore_n C (lv' := [(3, _), (2, _), (0, _), (1, _)]) dX6_run_31 rfl (by decide) rfl ?_
      refine x_iinc C (lv' := [(2, _), (3, _), (0, _), (1, _)]) dX6_run_32 rfl (by decide) rfl ?_
      refine x_goto (tgt := 15) C dX6_run_35 (by decide) ?_
      refine X.sub [0, 2, 3] rfl ?_
      rw [show (i : Int) + 1 = ((i + 1 : Nat) : Int) by omega]
      exact ih (i + 1) (by omega) ρ1 q1 hq1
set_option maxHeartbeats 4000000 in
set_option maxRecDepth 100000 in
theorem r_run {l : Launch} {D : va_G} {ad : Nat → Nat} {g : Nat × Nat × Nat × Nat} (hg : 3 ≤ g.1 ∧ g.1 ≤ 11 ∧ 8 ≤ g.2.1 ∧ g.2.1 ≤ 2048 ∧ 1 ≤ g.2.2.1 ∧ g.2.2.1 ≤ 24 ∧ 1 ≤ g.2.2.2 ∧ g.2.2.2 ≤ 12) (hnp : g.2.1 = 2 ^ g.1) (J : Nat → St → List Int → Prop) (hJ1 : ∀ k ρ q, J (k + 1) ρ q → TPr g ρ q) (hJ2 : ∀ k ρ ρ' q r, J (k + 1) ρ q → TR g ρ ρ' q r → r ≠ -1 → ∃ q', J k ρ' q') (n : Int) (ρ : St) (q : List Int) (hq : J n.toNat ρ q) (rg_n : -2147483648 ≤ n ∧ n < 2147483648) : Rt l D ad yX6_run (Cond.code yX6_run cX6_run 4 (some .int) :: tb) 7 320 [.ref (ad 0), vi n] ρ (fun v ρ' => (¬ (0 ≤ n ∧ n ≤ 5000) ∧ v = some (vi (-1)) ∧ ρ = ρ') ∨ ((0 ≤ n ∧ n ≤ 5000) ∧ ∃ (k' : Nat) (q' : List Int), v = some (vi (n - k')) ∧ J k' ρ' q' ∧ (k' = 0 ∨ q' = []))) := by
  refine ct_of (by decide) rfl (Nat.le_of_ble_eq_true rfl) ?_
  intro p e s m below meth c C
  change X _ _ _ _ _ _ _ _ _ _ _ _ _ _ _ _ [(0, .ref (ad 0)), (1, vi n)] _
  refine x_iload_n C dX6_run_0 rfl rfl ?_
  refine x_if_lt (tgt := 11) C dX6_run_1 (by decide) (by omega) (fun c_1 => ?_) (fun c_1 => ?_)
  · refine x_iconst C dX6_run_11 ?_
    exact x_iret C dX6_run_12 ⟨_, rfl, Or.inl ⟨by omega, rfl, rfl⟩⟩
  · refine x_iload_n C dX6_run_4 rfl rfl ?_
    refine x_sipush C (z := 5000) dX6_run_5 (by decide) ?_
    refine x_icmp_le (tgt := 13) C dX6_run_8 (by decide) (by omega) (by omega) (fun c_8 => ?_) (fun c_8 => ?_)
    · obtain ⟨N, rfl⟩ : ∃ N : Nat, n = N := ⟨n.toNat, by omega⟩
      rw [Int.toNat_natCast] at hq
      refine x_iconst C dX6_run_13 ?_
      refine x_istore_n C (lv' := [(2, _), (0, _), (1, _)]) dX6_run_14 rfl (by decide) rfl ?_
      refine rp_run C hg hnp ⟨by decide, by decide⟩ J hJ1 hJ2 N (by omega) N 0 (by omega) ρ q hq ?_
      intro k' ρ' q' lv hk hJ he
      exact x_iret C dX6_run_39 ⟨_, rfl, Or.inr ⟨by omega, k', q', rfl, hJ, he⟩⟩
    · refine x_iconst C dX6_run_11 ?_
      exact x_iret C dX6_run_12 ⟨_, rfl, Or.inl ⟨by omega, rfl, rfl⟩⟩
