/-! REDUCING -/
theorem nv_hd (f : Nat → Int) (a n : Nat) : nv f a (n + 1) = f a + 2147483648 * nv f (a + 1) n := by
  rw [Nat.add_comm, nv_add, nv_1]; rfl
theorem dv_top {g : Nat × Nat × Nat × Nat} {σ : St} {a r : Nat} (h : DVS g σ a r) (hL : LM g σ) : 2147483648 ^ (r - 1) ≤ nv (σ 2) a r ∧ 0 < nv (σ 2) a r := by
  obtain ⟨-, -, hr, har, s0, hs0, -, hlo, hhi, -⟩ := h
  have hla := hL.lim har
  have b0 := lb_in hla 0
  have hT0 : 0 < lb (σ 2) a r 0 := by
    rcases Int.lt_or_le 0 (lb (σ 2) a r 0) with q | q
    · exact q
    · have : lb (σ 2) a r 0 = 0 := by omega
      rw [this] at hlo; omega
  refine ⟨?_, nv_pos hla hr hT0⟩
  obtain ⟨k, rfl⟩ : ∃ k, r = k + 1 := ⟨r - 1, by omega⟩
  have h1 := nv_ge (hla.mono (show k ≤ k + 1 by omega))
  unfold lb at hT0
  rw [if_pos (by omega), show k + 1 - (0 + 1) = k by omega] at hT0
  have h2 := Int.mul_le_mul_of_nonneg_right (show 1 ≤ σ 2 (a + k) by omega) (Int.le_of_lt (bp_pos k))
  rw [nv_s, show k + 1 - 1 = k by omega]; omega
/-- what holds while a number is reduced: c digits are still to come -/
def RD (F f : Nat → Int) (u sz r c : Nat) (D : Int) (Q : Int) : Prop := nv f (u + c) r < D ∧ (∀ q, u + c + r ≤ q → q < u + sz + 1 → f q = 0) ∧ (∀ q, u ≤ q → q < u + c → f q = F q) ∧ nv F (u + c) (sz - c) = Q * D + nv f (u + c) r
set_option maxHeartbeats 4000000 in
set_option maxRecDepth 100000 in
theorem lp_reduce {p : Program} {l : Launch} {e : Env} {R : Room} {s : State} {m : MethodId} {args : Array Value} {below : List Frame} {meth : Method} {c : Code} {D : va_G} {ad : Nat → Nat} {g : Nat × Nat × Nat × Nat} {Q : State → Prop} (C : Fx p s m args meth c D ad cX4_reduce 6 none yX4_reduce.cls tb) (hg : 3 ≤ g.1 ∧ g.1 ≤ 11 ∧ 8 ≤ g.2.1 ∧ g.2.1 ≤ 2048 ∧ 1 ≤ g.2.2.1 ∧ g.2.2.1 ≤ 24 ∧ 1 ≤ g.2.2.2 ∧ g.2.2.2 ≤ 12) (σ : St) (a r u sz : Nat) (hD : DVS g σ a r) (hsz : u + sz + 1 ≤ g.2.1) (hdis : a + r ≤ u ∨ u + sz + 1 ≤ a) (t : Int) (ht : t = -1 ∨ (∃ t0 : Nat, t = t0 ∧ t0 + (sz + 1 - r) ≤ g.2.1 ∧ (t0 + (sz + 1 - r) ≤ u ∨ u + sz + 1 ≤ t0) ∧ (t0 + (sz + 1 - r) ≤ a ∨ a + r ≤ t0))) (hR : 1 ≤ R.frames ∧ 60 ≤ R.locals) (K : ∀ (σ' : St) (Q0 : Int) lv, LM g σ' → (∀ q, q ≠ 2 → σ' q = σ q) → (∀ q, ¬ (u ≤ q ∧ q < u + sz + 1) → (∀ t0 : Nat, t = t0 → ¬ (t0 ≤ q ∧ q < t0 + (sz + 1 - r))) → σ' 2 q = σ 2 q) → RD (σ 2) (σ' 2) u sz r 0 (nv (σ 2) a r) Q0 → (∀ t0 : Nat, t = t0 → nv (σ' 2) t0 (sz + 1 - r) = Q0) → X p l e R s m args below meth c D ad 6 Q (kc D ad g σ') 53 lv []) (n c0 : Nat) (hn : c0 < n) (hc : c0 + r ≤ sz + 1) (Q0 : Int) (σ1 : St) (hL : LM g σ1) (hrow : ∀ q, q ≠ 2 → σ1 q = σ q) (hfr : (∀ q, ¬ (u ≤ q ∧ q < u + sz + 1) → (∀ t0 : Nat, t = t0 → ¬ (t0 ≤ q ∧ q < t0 + (sz + 1 - r))) → σ1 2 q = σ 2 q)) (hRD : RD (σ 2) (σ1 2) u sz r c0 (nv (σ 2) a r) Q0) (hQ : ∀ t0 : Nat, t = t0 → nv (σ1 2) (t0 + c0) (sz + 1 - r - c0) = Q0) : X p l e R s m args below meth c D ad 6 Q (kc D ad g σ1) 8 [(4, vi ((c0 : Int) - 1)), (0, .ref (ad 5)), (1, vi (u : Int)), (2, vi (sz : Int)), (3, vi t)] [] := by
  induction n generalizing c0 Q0 σ1 with
  | zero => omega
  | succ n ih =>
  refine x_iload C dX4_reduce_8 rfl ?_
  refine x_if_lt (tgt := 53) C dX4_reduce_10 (by decide) (by omega) (fun c_10 => ?_) (fun c_10 => ?_)
  · obtain rfl : c0 = 0 := by omega
    exact K σ1 Q0 _ hL hrow hfr hRD (fun t0 h => by have := hQ t0 h; rwa [Nat.add_zero, Nat.sub_zero] at this)
  · obtain ⟨i, rfl⟩ : ∃ i, c0 = i + 1 := ⟨c0 - 1, by omega⟩
    obtain ⟨rd1, rd2, rd3, rd4⟩ := hRD
    have hDV1 : DVS g σ1 a r := hD.keep (hrow 5 (by decide)) (fun q h1 h2 => hfr q (by omega) (fun t0 e => by rcases ht with ht | ⟨t1, e1, -, -, h3⟩ <;> omega))
    have hA : nv (σ1 2) a r = nv (σ 2) a r := nv_ext (fun i hi => hfr _ (by omega) (fun t0 e => by rcases ht with ht | ⟨t1, e1, -, -, h3⟩ <;> omega))
    have hDpos := (dv_top hDV1 hL).2
    obtain ⟨d51, d52, hr, har, -⟩ := id hDV1
    have hli := hL (u + i) (by omega)
    have hUe := nv_hd (σ1 2) (u + i) r
    rw [show u + i + 1 = u + (i + 1) by omega] at hUe
    have hUlt : nv (σ1 2) (u + i) (r + 1) < nv (σ1 2) a r * 2147483648 := by rw [hUe, hA]; omega
    refine x_aload_n C dX4_reduce_13 rfl rfl ?_
    refine x_iload_n C dX4_reduce_14 rfl rfl ?_
    refine x_iload C dX4_reduce_15 rfl ?_
    refine x_iadd C dX4_reduce_17 ?_
    rw [show (u : Int) + (((i + 1 : Nat) : Int) - 1) = ((u + i : Nat) : Int) by omega]
    refine x_aload_n C dX4_reduce_18 rfl rfl ?_
    refine x_iload_n C dX4_reduce_19 rfl rfl ?_
    refine x_iload C dX4_reduce_20 rfl ?_
    refine x_iadd C dX4_reduce_22 ?_
    rw [show (u : Int) + (((i + 1 : Nat) : Int) - 1) = ((u + i : Nat) : Int) by omega]
    refine x_callV C (ci := 4) (nn := 1) (c_guessDigit hg σ1 hL a r (u + i) hDV1 (by omega) hUlt) g_RX4_75 rfl (by decide +kernel) ⟨by first | decide | omega, by first | decide | omega⟩ rfl rfl rfl rfl rfl (Nat.le_of_ble_eq_true rfl) dX4_reduce_23 (fun v h1 hp => ?_)
    obtain ⟨σ2, rfl, rfl, gz, rfl, hg1, hg2⟩ := hp
    refine x_callV C (ci := 4) (nn := 2) (c_subtractTimes hg σ1 hL a r (u + i) d51 d52 hr har (by omega) (by omega) hDpos hUlt gz hg1 hg2) g_RX4_79 rfl (by decide +kernel) ⟨by first | decide | omega, by first | decide | omega⟩ rfl rfl rfl rfl rfl (Nat.le_of_ble_eq_true rfl) dX4_reduce_26 (fun v h1 hp => ?_)
    obtain ⟨σ2, rfl, rfl, hL2, hrow2, hfr2, hz2, hm2⟩ := hp
    obtain ⟨dg, edg⟩ : ∃ dg, dg = nv (σ1 2) (u + i) (r + 1) / nv (σ1 2) a r := ⟨_, rfl⟩
    dsimp only [Option.toList, List.cons_append, List.nil_append]
    rw [← edg]
    have hU0 := nv_ge (hL.lim (show u + i + (r + 1) ≤ g.2.1 by omega))
    have hdg : 0 ≤ dg ∧ dg < 2147483648 := by
      rw [edg]; exact ⟨Int.ediv_nonneg hU0 (by omega), Int.ediv_lt_of_lt_mul hDpos (by rw [Int.mul_comm]; exact hUlt)⟩
    have q1 := Int.mul_ediv_add_emod (nv (σ1 2) (u + i) (r + 1)) (nv (σ1 2) a r)
    have q3 := Int.emod_lt_of_pos (nv (σ1 2) (u + i) (r + 1)) hDpos
    rw [← edg, ← hm2, hA] at q1
    rw [← hm2, hA] at q3
    have hnew : RD (σ 2) (σ2 2) u sz r i (nv (σ 2) a r) (2147483648 * Q0 + dg) := by
      refine ⟨q3, fun q h1 h2 => ?_, fun q h1 h2 => ?_, ?_⟩
      · rcases (show q = u + i + r ∨ u + i + r < q by omega) with e | e
        · rw [e]; exact hz2
        · rw [hfr2 q (by omega)]; exact rd2 q (by omega) h2
      · rw [hfr2 q (by omega)]; exact rd3 q h1 (by omega)
      · rw [show sz - i = sz - (i + 1) + 1 by omega, nv_hd, show u + i + 1 = u + (i + 1) by omega, rd4, ← rd3 (u + i) (by omega) (by omega), Int.add_mul, Int.mul_assoc]
        rw [hUe, Int.mul_comm (nv (σ 2) a r)] at q1
        omega
    refine x_istore C (lv' := [(5, _), (4, _), (0, _), (1, _), (2, _), (3, _)]) dX4_reduce_29 (by decide) rfl ?_
    refine x_iload_n C dX4_reduce_31 rfl rfl ?_
    refine x_iconst C dX4_reduce_32 ?_
    refine x_icmp_eq (tgt := 47) C dX4_reduce_33 (by decide) (by rcases ht with ht | ⟨t1, e1, h1, -⟩ <;> omega) (by omega) (fun c_33 => ?_) (fun c_33 => ?_)
    · refine x_iinc C (lv' := [(4, _), (5, _), (0, _), (1, _), (2, _), (3, _)]) dX4_reduce_47 rfl (by decide) rfl ?_
      refine x_goto (tgt := 8) C dX4_reduce_50 (by decide) ?_
      refine X.sub [0, 2, 3, 4, 5] rfl ?_
      rw [show (((i + 1 : Nat) : Int) - 1) + -1 = (i : Int) - 1 by omega]
      refine ih i (by omega) (by omega) (2147483648 * Q0 + dg) σ2 hL2 (fun q hq => by rw [hrow2 q hq]; exact hrow q hq) (fun q h1 h2 => by rw [hfr2 q (by omega)]; exact hfr q h1 h2) hnew (fun t0 e => by omega)
    · obtain ⟨t1, e1, ht1, ht2, ht3⟩ : ∃ t0 : Nat, t = t0 ∧ t0 + (sz + 1 - r) ≤ g.2.1 ∧ (t0 + (sz + 1 - r) ≤ u ∨ u + sz + 1 ≤ t0) ∧ (t0 + (sz + 1 - r) ≤ a ∨ a + r ≤ t0) := ht.resolve_left c_33
      clear ht
      subst e1
      refine x_aload_n C dX4_reduce_36 rfl rfl ?_
      refine x_get C (Cn := RX4) (T := TX4) (N := 6) (ci := 4) 0 dX4_reduce_37 m_w_4 m_f_RX4_9 rfl (by decide) rfl rfl ?_
      refine x_iload_n C dX4_reduce_40 rfl rfl ?_
      refine x_iload C dX4_reduce_41 rfl ?_
      refine x_iadd C dX4_reduce_43 ?_
      refine x_iload C dX4_reduce_44 rfl ?_
      refine k_ast C dX4_reduce_46 (fun _ => rfl) (by omega) (by omega) ?_
      rw [show ((t1 : Int) + (((i + 1 : Nat) : Int) - 1)).toNat = t1 + i by omega]
      refine x_iinc C (lv' := [(4, _), (5, _), (0, _), (1, _), (2, _), (3, _)]) dX4_reduce_47 rfl (by decide) rfl ?_
      refine x_goto (tgt := 8) C dX4_reduce_50 (by decide) ?_
      refine X.sub [0, 2, 3, 4, 5] rfl ?_
      rw [show (((i + 1 : Nat) : Int) - 1) + -1 = (i : Int) - 1 by omega]
      refine ih i (by omega) (by omega) (2147483648 * Q0 + dg) _ (hL2.up hdg) (fun q hq => by rw [up_n hq, hrow2 q hq]; exact hrow q hq) (fun q h1 h2 => by have h3 := h2 t1 rfl; rw [up_s, zup_n (by omega), hfr2 q (by omega)]; exact hfr q h1 h2) ?_ ?_
      · obtain ⟨n1, n2, n3, n4⟩ := hnew
        have e1 : nv (up σ2 2 (t1 + i) dg 2) (u + i) r = nv (σ2 2) (u + i) r := by rw [up_s]; exact nv_ext (fun q hq => zup_n (by omega))
        refine ⟨by rw [e1]; exact n1, fun q h1 h2 => ?_, fun q h1 h2 => ?_, by rw [e1]; exact n4⟩
        · rw [up_s, zup_n (by omega)]; exact n2 q h1 h2
        · rw [up_s, zup_n (by omega)]; exact n3 q h1 h2
      · intro t0 e
        obtain rfl : t1 = t0 := by omega
        have e0 := hQ t1 rfl
        rw [show sz + 1 - r - i = sz + 1 - r - (i + 1) + 1 by omega, nv_hd, up_s, zup_s, nv_ext (g := σ1 2) (b := t1 + (i + 1)) (n := sz + 1 - r - (i + 1)) (fun q hq => by rw [zup_n (by omega), hfr2 _ (by omega), show t1 + i + 1 + q = t1 + (i + 1) + q by omega]), e0]
        omega
/-- what a reduction makes: the rest, and (t not -1) the quotient at t -/
def rdP (g : Nat × Nat × Nat × Nat) (σ σ' : St) (a r u sz : Nat) (t : Int) : Prop := LM g σ' ∧ (∀ q, q ≠ 2 → σ' q = σ q) ∧ (∀ q, ¬ (u ≤ q ∧ q < u + sz + 1) → (∀ t0 : Nat, t = t0 → ¬ (t0 ≤ q ∧ q < t0 + (sz + 1 - r))) → σ' 2 q = σ 2 q) ∧ nv (σ' 2) u sz = nv (σ 2) u sz % nv (σ 2) a r ∧ (∀ q, u + r ≤ q → q < u + sz + 1 → σ' 2 q = 0) ∧ σ' 2 (u + sz) = 0 ∧ (∀ t0 : Nat, t = t0 → nv (σ' 2) t0 (sz + 1 - r) = nv (σ 2) u sz / nv (σ 2) a r)
set_option maxHeartbeats 4000000 in
set_option maxRecDepth 100000 in
theorem c_reduce {l : Launch} {D : va_G} {ad : Nat → Nat} {g : Nat × Nat × Nat × Nat} (hg : 3 ≤ g.1 ∧ g.1 ≤ 11 ∧ 8 ≤ g.2.1 ∧ g.2.1 ≤ 2048 ∧ 1 ≤ g.2.2.1 ∧ g.2.2.1 ≤ 24 ∧ 1 ≤ g.2.2.2 ∧ g.2.2.2 ≤ 12) (σ : St) (a r u sz : Nat) (hD : DVS g σ a r) (hsz : u + sz + 1 ≤ g.2.1) (hdis : a + r ≤ u ∨ u + sz + 1 ≤ a) (t : Int) (ht : t = -1 ∨ (∃ t0 : Nat, t = t0 ∧ t0 + (sz + 1 - r) ≤ g.2.1 ∧ (t0 + (sz + 1 - r) ≤ u ∨ u + sz + 1 ≤ t0) ∧ (t0 + (sz + 1 - r) ≤ a ∨ a + r ≤ t0))) (hL : LM g σ) (hz : σ 2 (u + sz) = 0) : Kt l D ad g yX4_reduce (Cond.code yX4_reduce cX4_reduce 6 none :: tb) 1 60 [.ref (ad 5), vi (u : Int), vi (sz : Int), vi t] σ (fun v σ' => v = none ∧ rdP g σ σ' a r u sz t) := by
  refine ct_of (by decide) rfl (Nat.le_of_ble_eq_true rfl) ?_
  intro p e s m below meth c C
  change X _ _ _ _ _ _ _ _ _ _ _ _ _ _ _ _ [(0, .ref (ad 5)), (1, vi (u : Int)), (2, vi (sz : Int)), (3, vi t)] _
  obtain ⟨d51, d52, hr, har, -⟩ := id hD
  obtain ⟨hdt, hDpos⟩ := dv_top hD hL
  have hlu := hL.lim (show u + sz ≤ g.2.1 by omega)
  refine x_iload_n C dX4_reduce_0 rfl rfl ?_
  refine x_aload_n C dX4_reduce_1 rfl rfl ?_
  refine x_get C (Cn := RX4) (T := TX4) (N := 6) (ci := 4) 2 dX4_reduce_2 m_w_4 m_f_RX4_38 rfl (by decide) rfl rfl ?_
  rw [d52]
  refine x_isub C dX4_reduce_5 ?_
  refine x_istore C (lv' := [(4, _), (0, _), (1, _), (2, _), (3, _)]) dX4_reduce_6 (by decide) rfl ?_
  by_cases hlt : sz + 1 ≤ r
  · have hsm : nv (σ 2) u sz < nv (σ 2) a r := by
      have h1 := nv_lt hlu
      have h2 : (2147483648 : Int) ^ sz ≤ 2147483648 ^ (r - 1) := by
        obtain ⟨k, hk⟩ : ∃ k, r - 1 = sz + k := ⟨r - 1 - sz, by omega⟩
        rw [hk, Int.pow_add]
        have h3 := Int.mul_le_mul_of_nonneg_left (show 1 ≤ (2147483648 : Int) ^ k by have := bp_pos k; omega) (Int.le_of_lt (bp_pos sz))
        omega
      omega
    have h0 := nv_ge hlu
    refine x_iload C dX4_reduce_8 rfl ?_
    refine x_if_lt (tgt := 53) C dX4_reduce_10 (by decide) (by omega) (fun c_10 => ?_) (fun c_10 => ?_)
    · exact x_vret C dX4_reduce_53 ⟨_, rfl, rfl, hL, fun _ _ => rfl, fun _ _ _ => rfl, (Int.emod_eq_of_lt h0 hsm).symm, fun q h1 h2 => by omega, hz, fun t0 e => by rw [show sz + 1 - r = 0 by omega, nv_0, Int.ediv_eq_zero_of_lt h0 hsm]⟩
    · exfalso
      have hsz1 : sz + 1 = r := by omega
      omega
  · rw [show (sz : Int) - (r : Int) = (((sz + 1 - r : Nat) : Int)) - 1 by omega]
    refine lp_reduce C hg σ a r u sz hD hsz hdis t ht ⟨by decide, by decide⟩ ?_ (sz + 2 - r) (sz + 1 - r) (by omega) (by omega) 0 σ hL (fun _ _ => rfl) (fun _ _ _ => rfl) ?_ (fun t0 e => by rw [show sz + 1 - r - (sz + 1 - r) = 0 by omega, nv_0])
    · intro σ' Q0 lv h1 h2 h3 h4 h5
      obtain ⟨r1, r2, r3, r4⟩ := h4
      rw [Nat.add_zero] at r1 r2
      rw [Nat.sub_zero, Nat.add_zero] at r4
      have e1 : nv (σ' 2) u sz = nv (σ' 2) u r := nv_top (by omega) (fun i h1 h2 => r2 _ (by omega) (by omega))
      have hN0 := nv_ge (h1.lim (show u + r ≤ g.2.1 by omega))
      have hm : nv (σ 2) u sz % nv (σ 2) a r = nv (σ' 2) u r := by rw [r4, Int.add_comm, Int.add_mul_emod_self_right]; exact Int.emod_eq_of_lt hN0 r1
      have hq : nv (σ 2) u sz / nv (σ 2) a r = Q0 := by rw [r4, Int.add_comm, Int.add_mul_ediv_right _ _ (by omega), Int.ediv_eq_zero_of_lt hN0 r1, Int.zero_add]
      exact x_vret C dX4_reduce_53 ⟨_, rfl, rfl, h1, h2, h3, by rw [e1, hm], r2, r2 _ (by omega) (by omega), fun t0 e => by rw [h5 t0 e, hq]⟩
    · have e1 : nv (σ 2) (u + (sz + 1 - r)) r = nv (σ 2) (u + (sz + 1 - r)) (r - 1) := nv_top (by omega) (fun i h1 h2 => by rw [show u + (sz + 1 - r) + i = u + sz by omega]; exact hz)
      have h1 := nv_lt (hL.lim (show u + (sz + 1 - r) + (r - 1) ≤ g.2.1 by omega))
      refine ⟨by rw [e1]; omega, fun q h1 h2 => by omega, fun _ _ _ => rfl, ?_⟩
      rw [e1, Int.zero_mul, Int.zero_add, show sz - (sz + 1 - r) = r - 1 by omega]
