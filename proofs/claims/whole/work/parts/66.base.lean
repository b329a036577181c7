/-! POWERS -/
theorem em_step (x H D : Int) : (x + 2147483648 * (H % D)) % D = (x + 2147483648 * H) % D := by
  rw [Int.add_emod, Int.mul_emod, Int.emod_emod_of_dvd _ (Int.dvd_refl D), ← Int.mul_emod, ← Int.add_emod]
theorem pow_sq (A D : Int) (e : Nat) : A ^ e % D * (A ^ e % D) % D = A ^ (2 * e) % D := by
  rw [← Int.mul_emod, ← Int.pow_add, show e + e = 2 * e by omega]
theorem pow_1 (A D : Int) (e : Nat) : A ^ e % D * (A % D) % D = A ^ (e + 1) % D := by
  rw [← Int.mul_emod, Int.pow_succ]
/-- a bit of a number of limbs -/
theorem nv_bit {f : Nat → Int} {a n i : Nat} (h : lim f a n) (hi : i < 31 * n) : (nv f a n).toNat / 2 ^ i % 2 = (f (a + i / 31) / 2 ^ (i % 31) % 2).toNat := by
  obtain ⟨k, hk⟩ : ∃ k, k = i / 31 := ⟨_, rfl⟩
  obtain ⟨m, hm⟩ : ∃ m, m = i % 31 := ⟨_, rfl⟩
  rw [← hk, ← hm]
  have hkn : k < n := by omega
  have e1 : nv f a n = nv f a k + 2147483648 ^ k * (f (a + k) + 2147483648 * nv f (a + k + 1) (n - k - 1)) := by
    rw [← nv_hd, show n - k - 1 + 1 = n - k by omega, ← nv_add, show k + (n - k) = n by omega]
  have l0 := nv_ge (h.mono (show k ≤ n by omega)); have l1 := nv_lt (h.mono (show k ≤ n by omega))
  have x0 := h k hkn
  have hh : lim f (a + k + 1) (n - k - 1) := h.sub (by omega) (by omega)
  have h0 := nv_ge hh
  have hP := bp_pos k
  have hN := nv_ge h
  generalize nv f (a + k + 1) (n - k - 1) = Hh at *
  generalize nv f a k = Ll at *
  generalize f (a + k) = x at *
  have e2 : nv f a n / 2147483648 ^ k = x + 2147483648 * Hh := by
    rw [e1, Int.add_mul_ediv_left _ _ (by omega), Int.ediv_eq_zero_of_lt l0 l1, Int.zero_add]
  have e3 : (2 : Int) ^ i = 2147483648 ^ k * 2 ^ m := by rw [B_31, ← Int.pow_add]; congr 1; omega
  have e4 : nv f a n / 2 ^ i = x / 2 ^ m + 2 ^ (31 - m) * Hh := by
    rw [e3, ← Int.ediv_ediv_of_nonneg (by omega), e2]
    have e5 : (2147483648 : Int) = 2 ^ m * 2 ^ (31 - m) := by rw [← Int.pow_add, show m + (31 - m) = 31 by omega]; decide
    rw [show x + 2147483648 * Hh = x + 2 ^ m * (2 ^ (31 - m) * Hh) by rw [← Int.mul_assoc, ← e5], Int.add_mul_ediv_left _ _ (by have := zp_pos m; omega)]
  have e6 : (2 : Int) ^ (31 - m) = 2 * 2 ^ (30 - m) := by rw [show 31 - m = 30 - m + 1 by omega, Int.pow_succ]; omega
  have e7 : nv f a n / 2 ^ i % 2 = x / 2 ^ m % 2 := by
    rw [e4, e6, Int.mul_assoc, Int.add_mul_emod_self_left]
  have e8 : (((nv f a n).toNat / 2 ^ i % 2 : Nat) : Int) = nv f a n / 2 ^ i % 2 := by
    push_cast
    rw [Int.toNat_of_nonneg hN]
  rw [← e7]
  omega
set_option maxHeartbeats 4000000 in
set_option maxRecDepth 100000 in
theorem lp_rtb {p : Program} {l : Launch} {e : Env} {R : Room} {s : State} {m : MethodId} {args : Array Value} {below : List Frame} {meth : Method} {c : Code} {D : va_G} {ad : Nat → Nat} {g : Nat × Nat × Nat × Nat} {Q : State → Prop} (C : Fx p s m args meth c D ad cX4_reduceToBase 5 none yX4_reduceToBase.cls tb) (hg : 3 ≤ g.1 ∧ g.1 ≤ 11 ∧ 8 ≤ g.2.1 ∧ g.2.1 ≤ 2048 ∧ 1 ≤ g.2.2.1 ∧ g.2.2.1 ≤ 24 ∧ 1 ≤ g.2.2.2 ∧ g.2.2.2 ≤ 12) (σ : St) (a r : Nat) (hD : DVS g σ a r) (h A n0 : Nat) (hN : NM g σ h A n0) (ar : Nat) (har : ar + r + 1 ≤ g.2.1) (d1 : a + r ≤ ar ∨ ar + r + 1 ≤ a) (d2 : A + n0 ≤ ar ∨ ar + r + 1 ≤ A) (hR : 1 ≤ R.frames ∧ 60 ≤ R.locals) (b0 : Int) (K : ∀ (σ' : St) lv, LM g σ' → (∀ q, q ≠ 2 → σ' q = σ q) → (∀ q, ¬ (ar ≤ q ∧ q < ar + r + 1) → σ' 2 q = σ 2 q) → nv (σ' 2) ar r = nv (σ 2) A n0 % nv (σ 2) a r → lk 0 lv = some (.ref (ad 5)) → lk 3 lv = some (vi (ar : Int)) → lk 2 lv = some (vi b0) → X p l e R s m args below meth c D ad 5 Q (kc D ad g σ') 84 lv []) (n c0 : Nat) (hn : c0 < n) (hc : c0 ≤ n0) (σ1 : St) (hL : LM g σ1) (hrow : ∀ q, q ≠ 2 → σ1 q = σ q) (hfr : ∀ q, ¬ (ar ≤ q ∧ q < ar + r + 1) → σ1 2 q = σ 2 q) (hT : nv (σ1 2) ar r = nv (σ 2) (A + c0) (n0 - c0) % nv (σ 2) a r) : X p l e R s m args below meth c D ad 5 Q (kc D ad g σ1) 25 [(4, vi ((c0 : Int) - 1)), (0, .ref (ad 5)), (1, .ref (ad (10 + h))), (2, vi b0), (3, vi (ar : Int))] [] := by
  have hNn := hN.1
  have hNb := hN.2.2.2
  induction n generalizing c0 σ1 with
  | zero => omega
  | succ n ih =>
  refine x_iload C dX4_reduceToBase_25 rfl ?_
  refine x_if_lt (tgt := 84) C dX4_reduceToBase_27 (by decide) (by omega) (fun c_27 => ?_) (fun c_27 => ?_)
  · obtain rfl : c0 = 0 := by omega
    rw [Nat.add_zero, Nat.sub_zero] at hT
    exact K σ1 _ hL hrow hfr hT rfl rfl rfl
  · obtain ⟨i, rfl⟩ : ∃ i, c0 = i + 1 := ⟨c0 - 1, by omega⟩
    have hDV1 : DVS g σ1 a r := hD.keep (hrow 5 (by decide)) (fun q h1 h2 => hfr q (by omega))
    have hA1 : nv (σ1 2) a r = nv (σ 2) a r := nv_ext (fun i hi => hfr _ (by omega))
    have hDpos := (dv_top hDV1 hL).2
    obtain ⟨d51, d52, hr, hra, -⟩ := id hDV1
    have hN1 := hN.keep (hrow (10 + h) (by omega))
    have hTl : nv (σ1 2) ar r < nv (σ 2) a r := by rw [hT]; exact Int.emod_lt_of_pos _ (by rw [← hA1]; exact hDpos)
    refine x_aload_n C dX4_reduceToBase_30 rfl rfl ?_
    refine x_get C (Cn := RX4) (T := TX4) (N := 6) (ci := 4) 0 dX4_reduceToBase_31 m_w_4 m_f_RX4_9 rfl (by decide) rfl rfl ?_
    refine x_iload_n C dX4_reduceToBase_34 rfl rfl ?_
    refine x_aload_n C dX4_reduceToBase_35 rfl rfl ?_
    refine x_get C (Cn := RX4) (T := TX4) (N := 6) (ci := 4) 0 dX4_reduceToBase_36 m_w_4 m_f_RX4_9 rfl (by decide) rfl rfl ?_
    refine x_iload_n C dX4_reduceToBase_39 rfl rfl ?_
    refine x_iconst C dX4_reduceToBase_40 ?_
    refine x_iadd C dX4_reduceToBase_41 ?_
    rw [show (ar : Int) + 1 = ((ar + 1 : Nat) : Int) by omega]
    refine x_aload_n C dX4_reduceToBase_42 rfl rfl ?_
    refine x_get C (Cn := RX4) (T := TX4) (N := 6) (ci := 4) 2 dX4_reduceToBase_43 m_w_4 m_f_RX4_38 rfl (by decide) rfl rfl ?_
    rw [d52]
    refine k_copy C (sp := ar) (dp := ar + 1) (n := r) dX4_reduceToBase_46 (by omega) (by omega) (by omega) (by omega) (by omega) (Nat.le_of_ble_eq_true rfl) ?_
    have hL2 := LMcp hL (sp := ar) (dp := ar + 1) (n := r) (by omega)
    have hr2 : ∀ q, q ≠ 2 → upr σ1 2 (cpF (σ1 2) ar (ar + 1) r) q = σ1 q := fun q hq => upr_n hq
    have hf2 : ∀ q, ¬ (ar ≤ q ∧ q < ar + r + 1) → upr σ1 2 (cpF (σ1 2) ar (ar + 1) r) 2 q = σ1 2 q := fun q hq => by rw [upr_s, cp_out (by omega)]
    have hc2 : ∀ q, q < r → upr σ1 2 (cpF (σ1 2) ar (ar + 1) r) 2 (ar + 1 + q) = σ1 2 (ar + q) := fun q hq => by rw [upr_s, cp_in hq]
    generalize upr σ1 2 (cpF (σ1 2) ar (ar + 1) r) = σ2 at *
    have hN2 := hN1.keep (hr2 (10 + h) (by omega))
    refine x_aload_n C dX4_reduceToBase_49 rfl rfl ?_
    refine x_get C (Cn := RX4) (T := TX4) (N := 6) (ci := 4) 0 dX4_reduceToBase_50 m_w_4 m_f_RX4_9 rfl (by decide) rfl rfl ?_
    refine x_iload_n C dX4_reduceToBase_53 rfl rfl ?_
    refine x_aload_n C dX4_reduceToBase_54 rfl rfl ?_
    refine x_get C (Cn := RX4) (T := TX4) (N := 6) (ci := 4) 0 dX4_reduceToBase_55 m_w_4 m_f_RX4_9 rfl (by decide) rfl rfl ?_
    refine x_aload_n C dX4_reduceToBase_58 rfl rfl ?_
    refine x_get C (Cn := RX2) (T := TX2) (N := 6) (ci := 2) 3 dX4_reduceToBase_59 m_w_2 m_f_RX4_17 rfl (by decide) (kc_num (by omega)) rfl ?_
    rw [hN2.2.1]
    refine x_iload C dX4_reduceToBase_62 rfl ?_
    refine x_iadd C dX4_reduceToBase_64 ?_
    rw [show (A : Int) + (((i + 1 : Nat) : Int) - 1) = ((A + i : Nat) : Int) by omega]
    refine x_iald C dX4_reduceToBase_65 rfl (by omega) (by omega) ?_
    rw [Int.toNat_natCast]
    have hli := hL2 (A + i) (by have := hN.2.2.2; omega)
    refine k_ast C dX4_reduceToBase_66 (fun _ => rfl) (by omega) (by omega) ?_
    rw [Int.toNat_natCast]
    have hAn := hN.2.2.2
    have e0 : σ2 2 (A + i) = σ 2 (A + i) := by rw [hf2 _ (by omega), hfr _ (by omega)]
    have hL3 : LM g (up σ2 2 ar (σ2 2 (A + i))) := hL2.up hli
    have hr3 : ∀ q, q ≠ 2 → up σ2 2 ar (σ2 2 (A + i)) q = σ2 q := fun q hq => up_n hq
    have hf3 : ∀ q, q ≠ ar → up σ2 2 ar (σ2 2 (A + i)) 2 q = σ2 2 q := fun q hq => by rw [up_s, zup_n hq]
    have hs3 : up σ2 2 ar (σ2 2 (A + i)) 2 ar = σ2 2 (A + i) := by rw [up_s, zup_s]
    generalize up σ2 2 ar (σ2 2 (A + i)) = σ3 at *
    have hU3 : nv (σ3 2) ar (r + 1) = σ 2 (A + i) + 2147483648 * nv (σ1 2) ar r := by
      rw [nv_hd, hs3, e0, nv_ext (g := σ1 2) (b := ar) (n := r) (fun q hq => by rw [hf3 _ (by omega), hc2 q hq])]
    have hDV3 : DVS g σ3 a r := hDV1.keep (by rw [hr3 5 (by decide), hr2 5 (by decide)]) (fun q h1 h2 => by rw [hf3 q (by omega), hf2 q (by omega)])
    have hA3 : nv (σ3 2) a r = nv (σ 2) a r := by rw [← hA1]; exact nv_ext (fun q hq => by rw [hf3 _ (by omega), hf2 _ (by omega)])
    have hUlt : nv (σ3 2) ar (r + 1) < nv (σ3 2) a r * 2147483648 := by rw [hU3, hA3]; rw [e0] at hli; omega
    have hDp3 : 0 < nv (σ3 2) a r := (dv_top hDV3 hL3).2
    refine x_aload_n C dX4_reduceToBase_67 rfl rfl ?_
    refine x_iload_n C dX4_reduceToBase_68 rfl rfl ?_
    refine x_aload_n C dX4_reduceToBase_69 rfl rfl ?_
    refine x_iload_n C dX4_reduceToBase_70 rfl rfl ?_
    refine x_callV C (ci := 4) (nn := 1) (c_guessDigit hg σ3 hL3 a r ar hDV3 har hUlt) g_RX4_75 rfl (by decide +kernel) ⟨by first | decide | omega, by first | decide | omega⟩ rfl rfl rfl rfl rfl (Nat.le_of_ble_eq_true rfl) dX4_reduceToBase_71 (fun v h1 hp => ?_)
    obtain ⟨σ4, rfl, rfl, gz, rfl, hg1, hg2⟩ := hp
    refine x_callV C (ci := 4) (nn := 2) (c_subtractTimes hg σ3 hL3 a r ar hDV3.1 hDV3.2.1 hr hra har d1 hDp3 hUlt gz hg1 hg2) g_RX4_79 rfl (by decide +kernel) ⟨by first | decide | omega, by first | decide | omega⟩ rfl rfl rfl rfl rfl (Nat.le_of_ble_eq_true rfl) dX4_reduceToBase_74 (fun v h1 hp => ?_)
    obtain ⟨σ4, rfl, rfl, hL4, hr4, hf4, hz4, hm4⟩ := hp
    dsimp only [Option.toList, List.cons_append, List.nil_append]
    rw [hU3, hA3, hT, em_step] at hm4
    refine x_pop C dX4_reduceToBase_77 rfl ?_
    refine x_iinc C (lv' := [(4, _), (0, _), (1, _), (2, _), (3, _)]) dX4_reduceToBase_78 rfl (by decide) rfl ?_
    refine x_goto (tgt := 25) C dX4_reduceToBase_81 (by decide) ?_
    rw [show (((i + 1 : Nat) : Int) - 1) + -1 = (i : Int) - 1 by omega]
    refine ih i (by omega) (by omega) σ4 hL4 (fun q hq => by rw [hr4 q hq, hr3 q hq, hr2 q hq]; exact hrow q hq) (fun q hq => by rw [hf4 q hq, hf3 q (by omega), hf2 q hq]; exact hfr q hq) ?_
    rw [hm4, show n0 - i = n0 - (i + 1) + 1 by omega, nv_hd, show A + i + 1 = A + (i + 1) by omega]
set_option maxHeartbeats 4000000 in
set_option maxRecDepth 100000 in
theorem c_reduceToBase {l : Launch} {D : va_G} {ad : Nat → Nat} {g : Nat × Nat × Nat × Nat} (hg : 3 ≤ g.1 ∧ g.1 ≤ 11 ∧ 8 ≤ g.2.1 ∧ g.2.1 ≤ 2048 ∧ 1 ≤ g.2.2.1 ∧ g.2.2.1 ≤ 24 ∧ 1 ≤ g.2.2.2 ∧ g.2.2.2 ≤ 12) (σ : St) (a r : Nat) (hD : DVS g σ a r) (h A n0 : Nat) (hN : NM g σ h A n0) (ar : Nat) (har : ar + r + 1 ≤ g.2.1) (d1 : a + r ≤ ar ∨ ar + r + 1 ≤ a) (d2 : A + n0 ≤ ar ∨ ar + r + 1 ≤ A) (hL : LM g σ) (b0 : Nat) (hb0 : b0 + r ≤ g.2.1) (d3 : b0 + r ≤ ar ∨ ar + r + 1 ≤ b0) : Kt l D ad g yX4_reduceToBase (Cond.code yX4_reduceToBase cX4_reduceToBase 5 none :: tb) 2 100 [.ref (ad 5), .ref (ad (10 + h)), vi (b0 : Int), vi (ar : Int)] σ (fun v σ' => v = none ∧ LM g σ' ∧ (∀ q, q ≠ 2 → σ' q = σ q) ∧ (∀ q, ¬ (ar ≤ q ∧ q < ar + r + 1) → ¬ (b0 ≤ q ∧ q < b0 + r) → σ' 2 q = σ 2 q) ∧ nv (σ' 2) b0 r = nv (σ 2) A n0 % nv (σ 2) a r) := by
  refine ct_of (by decide) rfl (Nat.le_of_ble_eq_true rfl) ?_
  intro p e s m below meth c C
  change X _ _ _ _ _ _ _ _ _ _ _ _ _ _ _ _ [(0, .ref (ad 5)), (1, .ref (ad (10 + h))), (2, vi (b0 : Int)), (3, vi (ar : Int))] _
  obtain ⟨d51, d52, hr, hra, -⟩ := id hD
  have hDp := (dv_top hD hL).2
  have hNn := hN.1
  have hNb := hN.2.2.2
  refine x_aload_n C dX4_reduceToBase_0 rfl rfl ?_
  refine x_get C (Cn := RX4) (T := TX4) (N := 6) (ci := 4) 0 dX4_reduceToBase_1 m_w_4 m_f_RX4_9 rfl (by decide) rfl rfl ?_
  refine x_iload_n C dX4_reduceToBase_4 rfl rfl ?_
  refine x_iload_n C dX4_reduceToBase_5 rfl rfl ?_
  refine x_aload_n C dX4_reduceToBase_6 rfl rfl ?_
  refine x_get C (Cn := RX4) (T := TX4) (N := 6) (ci := 4) 2 dX4_reduceToBase_7 m_w_4 m_f_RX4_38 rfl (by decide) rfl rfl ?_
  rw [d52]
  refine x_iadd C dX4_reduceToBase_10 ?_
  refine x_iconst C dX4_reduceToBase_11 ?_
  refine x_iadd C dX4_reduceToBase_12 ?_
  refine x_iconst C dX4_reduceToBase_13 ?_
  rw [show (ar : Int) + (r : Int) + 1 = ((ar + r + 1 : Nat) : Int) by omega]
  refine x_callS C (nn := 4) (c_fillR hg σ 2 g.2.1 ar (ar + r + 1) (by omega) (by omega) (fun _ => rfl) 0) g_RX4_69 rfl (by decide +kernel) ⟨by first | decide | omega, by first | decide | omega⟩ rfl rfl (Nat.le_of_ble_eq_true rfl) dX4_reduceToBase_14 (fun v h1 hp => ?_)
  obtain ⟨σ1, rfl, rfl, rfl⟩ := hp
  have hL1 : LM g (upr σ 2 (fl (σ 2) ar (ar + r + 1) 0)) := LMupr (fun i hi => by unfold fl; split; omega; exact hL i hi)
  have hf1 : ∀ q, ¬ (ar ≤ q ∧ q < ar + r + 1) → upr σ 2 (fl (σ 2) ar (ar + r + 1) 0) 2 q = σ 2 q := fun q hq => by rw [upr_s]; unfold fl; rw [if_neg hq]
  have hz1 : ∀ q, ar ≤ q → q < ar + r + 1 → upr σ 2 (fl (σ 2) ar (ar + r + 1) 0) 2 q = 0 := fun q h1 h2 => by rw [upr_s]; unfold fl; rw [if_pos ⟨h1, h2⟩]
  have hr1 : ∀ q, q ≠ 2 → upr σ 2 (fl (σ 2) ar (ar + r + 1) 0) q = σ q := fun q hq => upr_n hq
  generalize upr σ 2 (fl (σ 2) ar (ar + r + 1) 0) = σ1 at *
  have hN1 := hN.keep (hr1 (10 + h) (by omega))
  refine x_aload_n C dX4_reduceToBase_17 rfl rfl ?_
  refine x_get C (Cn := RX2) (T := TX2) (N := 6) (ci := 2) 2 dX4_reduceToBase_18 m_w_2 m_f_RX4_23 rfl (by decide) (kc_num (by omega)) rfl ?_
  rw [hN1.2.2.1]
  refine x_iconst C dX4_reduceToBase_21 ?_
  refine x_isub C dX4_reduceToBase_22 ?_
  refine x_istore C (lv' := [(4, _), (0, _), (1, _), (2, _), (3, _)]) dX4_reduceToBase_23 (by decide) rfl ?_
  refine lp_rtb C hg σ a r hD h A n0 hN ar har d1 d2 ⟨by decide, by decide⟩ (b0 : Int) ?_ (n0 + 1) n0 (by omega) (by omega) σ1 hL1 hr1 hf1 (by rw [Nat.sub_self, nv_0, Int.zero_emod]; exact nv_zero (fun q hq => hz1 _ (by omega) (by omega)))
  intro σ2 lv h1 h2 h3 h4 k0 k3 k2
  have e52 : σ2 5 2 = r := by rw [h2 5 (by decide)]; exact d52
  refine x_aload_n C dX4_reduceToBase_84 rfl k0 ?_
  refine x_get C (Cn := RX4) (T := TX4) (N := 6) (ci := 4) 0 dX4_reduceToBase_85 m_w_4 m_f_RX4_9 rfl (by decide) rfl rfl ?_
  refine x_iload_n C dX4_reduceToBase_88 rfl k3 ?_
  refine x_aload_n C dX4_reduceToBase_89 rfl k0 ?_
  refine x_get C (Cn := RX4) (T := TX4) (N := 6) (ci := 4) 0 dX4_reduceToBase_90 m_w_4 m_f_RX4_9 rfl (by decide) rfl rfl ?_
  refine x_iload_n C dX4_reduceToBase_93 rfl k2 ?_
  refine x_aload_n C dX4_reduceToBase_94 rfl k0 ?_
  refine x_get C (Cn := RX4) (T := TX4) (N := 6) (ci := 4) 2 dX4_reduceToBase_95 m_w_4 m_f_RX4_38 rfl (by decide) rfl rfl ?_
  rw [e52]
  refine k_copy C (sp := ar) (dp := b0) (n := r) dX4_reduceToBase_98 (by omega) (by omega) (by omega) (by decide) (by decide) (Nat.le_of_ble_eq_true rfl) ?_
  exact x_vret C dX4_reduceToBase_101 ⟨_, rfl, rfl, LMcp h1 (by omega), fun q hq => by rw [upr_n hq, h2 q hq], fun q e1 e2 => by rw [upr_s, cp_out e2, h3 q e1], by rw [← h4, upr_s]; exact nv_ext (fun i hi => cp_in hi)⟩
