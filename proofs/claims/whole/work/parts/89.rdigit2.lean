/-! THE REFERENCE'S DIGIT, whole -/
theorem top3r {f : Nat → Int} {a n : Nat} (hn : 1 < n) : nv f a (n + 1) = ((f (a + n) * 2147483648 + f (a + n - 1)) * 2147483648 + f (a + n - 2)) * 2147483648 ^ (n - 2) + nv f a (n - 2) := by
  obtain ⟨k, rfl⟩ : ∃ k, n = k + 2 := ⟨n - 2, by omega⟩
  rw [show k + 2 - 2 = k by omega, show a + (k + 2) - 1 = a + (k + 1) by omega, show a + (k + 2) - 2 = a + k by omega, nv_s, nv_s, nv_s, bp_s, bp_s, bp_s]
  simp only [Int.add_mul]
  rw [Int.mul_assoc (f (a + (k + 2)) * 2147483648), Int.mul_assoc (f (a + (k + 2))), ← Int.mul_assoc 2147483648 2147483648, Int.mul_comm (2147483648 * 2147483648) (2147483648 ^ k), ← Int.mul_assoc (2147483648 ^ k) 2147483648 2147483648, Int.mul_assoc (f (a + (k + 1))), Int.mul_comm 2147483648 (2147483648 ^ k)]
  omega
theorem dg_facts {F V : Nat → Int} {jj nn : Nat} (hnn : 0 < nn) (hV : lim V 0 nn) (hU : lim F jj (nn + 1)) (hv1 : 1073741824 ≤ V (nn - 1)) (hlt : nv F jj (nn + 1) < nv V 0 nn * 2147483648) {q hh : Int} (eq : q = nv F jj (nn + 1) / nv V 0 nn) (eh : hh = F (jj + nn) * 2147483648 + F (jj + nn - 1)) :
    0 < nv V 0 nn ∧ (0 ≤ q ∧ q < 2147483648) ∧ (0 ≤ hh ∧ hh < 4611686018427387904) ∧ q ≤ hh / V (nn - 1) ∧ (∀ d lf : Int, d * V (nn - 1) + lf = hh → 2147483648 ≤ d ∨ (1 < nn ∧ d * V (nn - 2) > lf * 2147483648 + F (jj + nn - 2)) → q ≤ d - 1) ∧ (∀ d lf : Int, q ≤ d → d * V (nn - 1) + lf = hh → 0 ≤ lf → (2147483648 ≤ lf ∨ (d < 2147483648 ∧ ¬ (1 < nn ∧ d * V (nn - 2) > lf * 2147483648 + F (jj + nn - 2)))) → d < 2147483648 ∧ d ≤ q + 1) := by
  have bV1 := hV (nn - 1) (by omega)
  rw [Nat.zero_add] at bV1
  have bu0 := hU nn (by omega)
  have bu1 := hU (nn - 1) (by omega)
  rw [show jj + (nn - 1) = jj + nn - 1 by omega] at bu1
  have hp0 : (0 : Int) < 2147483648 ^ (nn - 1) := Int.pow_pos (by decide)
  have hVp : 0 < nv V 0 nn := by
    have e := nv_s V 0 (nn - 1)
    rw [show nn - 1 + 1 = nn by omega, Nat.zero_add] at e
    have h1 := nv_ge (hV.mono (show nn - 1 ≤ nn by omega))
    have h2 : 0 < V (nn - 1) * 2147483648 ^ (nn - 1) := Int.mul_pos (by omega) hp0
    omega
  have hU0 := nv_ge hU
  have q0 : 0 ≤ q := by rw [eq]; exact Int.ediv_nonneg hU0 (by omega)
  have q1 : q < 2147483648 := by rw [eq]; exact Int.ediv_lt_of_lt_mul hVp (by rw [Int.mul_comm]; exact hlt)
  have hh0 : 0 ≤ hh ∧ hh < 4611686018427387904 := by omega
  have m1 := Int.mul_ediv_add_emod (nv F jj (nn + 1)) (nv V 0 nn)
  have m2 := Int.emod_nonneg (nv F jj (nn + 1)) (show nv V 0 nn ≠ 0 by omega)
  have m3 := Int.emod_lt_of_pos (nv F jj (nn + 1)) hVp
  rw [← eq] at m1
  have h8 : q * nv V 0 nn ≤ nv F jj (nn + 1) := by rw [Int.mul_comm]; omega
  have h9 : nv F jj (nn + 1) < (q + 1) * nv V 0 nn := by rw [Int.add_mul, Int.one_mul, Int.mul_comm q]; omega
  refine ⟨hVp, ⟨q0, q1⟩, hh0, ?_⟩
  clear m1 m2 m3 eq
  by_cases c : nn = 1
  · subst c
    have e1 : nv V 0 1 = V 0 := nv_1 V 0
    have e2 : nv F jj (1 + 1) = hh := by
      rw [nv_s, nv_1, eh, show jj + 1 - 1 = jj by omega]; omega
    rw [e1, e2] at h8 h9
    rw [show 1 - 1 = 0 from rfl] at hv1 ⊢
    refine ⟨(Int.le_ediv_iff_mul_le (by omega)).mpr h8, fun d lf h1 h2 => by omega, fun d lf h1 h2 h3 h4 => ?_⟩
    have h5 : q * V 0 ≤ d * V 0 := Int.mul_le_mul_of_nonneg_right h1 (by omega)
    rw [Int.add_mul, Int.one_mul] at h9
    have h6 : d ≤ q := by
      rcases Int.lt_or_le q d with c2 | c2
      · have := Int.mul_le_mul_of_nonneg_right (show q + 1 ≤ d by omega) (show 0 ≤ V 0 by omega)
        rw [Int.add_mul, Int.one_mul] at this
        omega
      · exact c2
    omega
  · have hn1 : 1 < nn := by omega
    have bV2 := hV (nn - 2) (by omega)
    rw [Nat.zero_add] at bV2
    have bu2 := hU (nn - 2) (by omega)
    rw [show jj + (nn - 2) = jj + nn - 2 by omega] at bu2
    have tV := top2 (f := V) (a := 0) hn1
    rw [Nat.zero_add, Nat.zero_add] at tV
    have tU := top3r (f := F) (a := jj) hn1
    rw [← eh] at tU
    have v0a := nv_ge (hV.mono (show nn - 2 ≤ nn by omega))
    have v0b := nv_lt (hV.mono (show nn - 2 ≤ nn by omega))
    have w0a := nv_ge (hU.mono (show nn - 2 ≤ nn + 1 by omega))
    have w0b := nv_lt (hU.mono (show nn - 2 ≤ nn + 1 by omega))
    have hP : (0 : Int) < 2147483648 ^ (nn - 2) := Int.pow_pos (by decide)
    rw [tV, tU] at h8 h9 hlt
    generalize (2147483648 : Int) ^ (nn - 2) = P at *
    generalize nv V 0 (nn - 2) = v0 at *
    generalize nv F jj (nn - 2) = w0 at *
    refine ⟨(knuth (by omega) bV2 ⟨v0a, v0b⟩ hh0.1 bu2 ⟨w0a, w0b⟩ ⟨q0, q1⟩ h8 h9).1, fun d lf h1 h2 => ?_, fun d lf h1 h2 h3 h4 => ?_⟩
    · rcases h2 with h2 | ⟨-, h2⟩
      · omega
      · exact dg_down hP v0a w0b q0 h1 h8 ⟨by omega, by omega⟩ h2
    · have hd1 : d < 2147483648 := by
        rcases h4 with h4 | h4
        · rcases Int.lt_or_le d 2147483648 with c2 | c2
          · exact c2
          · exfalso
            have k1 := Int.mul_le_mul_of_nonneg_right c2 (show 0 ≤ V (nn - 1) by omega)
            have k2 : (hh * 2147483648 + F (jj + nn - 2)) * P < ((V (nn - 1) * 2147483648 + V (nn - 2)) * 2147483648 + 2147483648) * P := by
              have a1 : ((V (nn - 1) * 2147483648 + V (nn - 2)) * P + v0) * 2147483648 = (V (nn - 1) * 2147483648 + V (nn - 2)) * 2147483648 * P + v0 * 2147483648 := by
                rw [Int.add_mul, Int.mul_assoc _ P, Int.mul_comm P, ← Int.mul_assoc]
              have a2 : ((V (nn - 1) * 2147483648 + V (nn - 2)) * 2147483648 + 2147483648) * P = (V (nn - 1) * 2147483648 + V (nn - 2)) * 2147483648 * P + 2147483648 * P := Int.add_mul _ _ _
              omega
            have k3 := Int.lt_of_mul_lt_mul_right k2 (Int.le_of_lt hP)
            omega
        · exact h4.1
      refine ⟨hd1, dg_end hP ⟨v0a, v0b⟩ w0a ⟨by omega, hd1⟩ h2 ⟨by omega, by omega⟩ h9 ?_⟩
      rcases h4 with h4 | ⟨-, h4⟩
      · have := mulB (show 0 ≤ d ∧ d < 2147483648 by omega) bV2
        omega
      · rcases Int.lt_or_le (lf * 2147483648 + F (jj + nn - 2)) (d * V (nn - 2)) with c3 | c3
        · exact absurd ⟨hn1, c3⟩ h4
        · exact c3
def DGP (ρ ρ' : St) (jj nn : Nat) : Prop := (∀ q, q ≠ 24 → ρ' q = ρ q) ∧ (∀ q, ¬ (jj ≤ q ∧ q ≤ jj + nn) → ρ' 24 q = ρ 24 q) ∧ (∀ i, jj ≤ i → i ≤ jj + nn → 0 ≤ ρ' 24 i ∧ ρ' 24 i < 2147483648) ∧ ρ' 24 (jj + nn) = 0 ∧ nv (ρ' 24) jj nn = nv (ρ 24) jj (nn + 1) % nv (ρ 25) 0 nn
set_option maxHeartbeats 4000000 in
set_option maxRecDepth 100000 in
theorem r_digit {l : Launch} {D : va_G} {ad : Nat → Nat} (ρ : St) (jj nn : Nat) (hnn : 0 < nn ∧ nn ≤ 2100) (hjn : jj + nn < 4200) (hV : ∀ i, i < nn → 0 ≤ ρ 25 i ∧ ρ 25 i < 2147483648) (hU : ∀ i, jj ≤ i → i ≤ jj + nn → 0 ≤ ρ 24 i ∧ ρ 24 i < 2147483648) (hv1 : 1073741824 ≤ ρ 25 (nn - 1)) (hlt : nv (ρ 24) jj (nn + 1) < nv (ρ 25) 0 nn * 2147483648) : Rt l D ad yX6_digit (Cond.code yX6_digit cX6_digit 21 (some .long) :: tb) 0 0 [.ref (ad 0), vi (jj : Int), vi (nn : Int)] ρ (fun v ρ' => v = some (vl (nv (ρ 24) jj (nn + 1) / nv (ρ 25) 0 nn)) ∧ DGP ρ ρ' jj nn) := by
  refine ct_of (by decide) rfl (Nat.le_of_ble_eq_true rfl) ?_
  intro p e s m below meth c C
  change X _ _ _ _ _ _ _ _ _ _ _ _ _ _ _ _ [(0, .ref (ad 0)), (1, vi (jj : Int)), (2, vi (nn : Int))] _
  have hvt := hV (nn - 1) (by omega)
  have hun := hU (jj + nn) (by omega) (by omega)
  have hun1 := hU (jj + nn - 1) (by omega) (by omega)
  obtain ⟨hh, eh⟩ : ∃ hh, hh = ρ 24 (jj + nn) * 2147483648 + ρ 24 (jj + nn - 1) := ⟨_, rfl⟩
  obtain ⟨q, eq⟩ : ∃ q, q = nv (ρ 24) jj (nn + 1) / nv (ρ 25) 0 nn := ⟨_, rfl⟩
  have hlV : lim (ρ 25) 0 nn := lim0 hV
  have hlU : lim (ρ 24) jj (nn + 1) := fun i hi => hU _ (by omega) (by omega)
  obtain ⟨hVp, hq, hhb, hqd, hA1, hA2⟩ := dg_facts hnn.1 hlV hlU hv1 hlt eq eh
  have m1 := Int.mul_ediv_add_emod (nv (ρ 24) jj (nn + 1)) (nv (ρ 25) 0 nn)
  have m2 := Int.emod_nonneg (nv (ρ 24) jj (nn + 1)) (show nv (ρ 25) 0 nn ≠ 0 by omega)
  have m3 := Int.emod_lt_of_pos (nv (ρ 24) jj (nn + 1)) hVp
  have hVb := nv_lt hlV
  rw [← eq] at m1 ⊢
  rw [Int.mul_comm] at m1
  refine x_aload_n C dX6_digit_0 rfl rfl ?_
  refine x_get C (Cn := RX6) (T := TX6) (N := 33) (ci := 6) 24 dX6_digit_1 m_w_6 m_f_RX6_66 rfl (by decide) rfl rfl ?_
  refine x_iload_n C dX6_digit_4 rfl rfl ?_
  refine x_iload_n C dX6_digit_5 rfl rfl ?_
  refine x_iadd C dX6_digit_6 ?_
  refine x_iald C dX6_digit_7 rfl (by omega) (by omega) ?_
  rw [show ((jj : Int) + (nn : Int)).toNat = jj + nn by omega]
  refine x_i2l C dX6_digit_8 (by omega) ?_
  refine x_bipush C (z := 31) dX6_digit_9 (by decide) ?_
  refine x_lshl C dX6_digit_11 (by decide) ?_
  rw [show ρ 24 (jj + nn) * 2 ^ (31 : Int).toNat = ρ 24 (jj + nn) * 2147483648 from rfl]
  refine x_aload_n C dX6_digit_12 rfl rfl ?_
  refine x_get C (Cn := RX6) (T := TX6) (N := 33) (ci := 6) 24 dX6_digit_13 m_w_6 m_f_RX6_66 rfl (by decide) rfl rfl ?_
  refine x_iload_n C dX6_digit_16 rfl rfl ?_
  refine x_iload_n C dX6_digit_17 rfl rfl ?_
  refine x_iadd C dX6_digit_18 ?_
  refine x_iconst C dX6_digit_19 ?_
  refine x_isub C dX6_digit_20 ?_
  refine x_iald C dX6_digit_21 rfl (by omega) (by omega) ?_
  rw [show ((jj : Int) + (nn : Int) - 1).toNat = jj + nn - 1 by omega]
  refine x_i2l C dX6_digit_22 (by omega) ?_
  refine x_ladd C dX6_digit_23 ?_
  rw [← eh]
  refine x_lstore_n C (lv' := [(3, _), (0, _), (1, _), (2, _)]) dX6_digit_24 rfl (by decide) rfl ?_
  refine x_lload_n C dX6_digit_25 rfl rfl ?_
  refine x_aload_n C dX6_digit_26 rfl rfl ?_
  refine x_get C (Cn := RX6) (T := TX6) (N := 33) (ci := 6) 25 dX6_digit_27 m_w_6 m_f_RX6_69 rfl (by decide) rfl rfl ?_
  refine x_iload_n C dX6_digit_30 rfl rfl ?_
  refine x_iconst C dX6_digit_31 ?_
  refine x_isub C dX6_digit_32 ?_
  refine x_iald C dX6_digit_33 rfl (by omega) (by omega) ?_
  rw [show ((nn : Int) - 1).toNat = nn - 1 by omega]
  refine x_i2l C dX6_digit_34 (by omega) ?_
  refine x_ldiv C (z := hh / ρ 25 (nn - 1)) dX6_digit_35 (fun q => by have := (lI_eq (a := ρ 25 (nn - 1)) (b := 0) (by omega) (by decide)).mp q; omega) (lI_div (by omega) (by omega)) ?_
  refine x_lstore C (lv' := [(5, _), (3, _), (0, _), (1, _), (2, _)]) dX6_digit_36 (by decide) rfl ?_
  refine x_lload_n C dX6_digit_38 rfl rfl ?_
  refine x_aload_n C dX6_digit_39 rfl rfl ?_
  refine x_get C (Cn := RX6) (T := TX6) (N := 33) (ci := 6) 25 dX6_digit_40 m_w_6 m_f_RX6_69 rfl (by decide) rfl rfl ?_
  refine x_iload_n C dX6_digit_43 rfl rfl ?_
  refine x_iconst C dX6_digit_44 ?_
  refine x_isub C dX6_digit_45 ?_
  refine x_iald C dX6_digit_46 rfl (by omega) (by omega) ?_
  rw [show ((nn : Int) - 1).toNat = nn - 1 by omega]
  refine x_i2l C dX6_digit_47 (by omega) ?_
  refine x_lrem C dX6_digit_48 (by omega) (by omega) ?_
  refine x_lstore C (lv' := [(7, _), (5, _), (3, _), (0, _), (1, _), (2, _)]) dX6_digit_49 (by decide) rfl ?_
  refine x_iconst C dX6_digit_51 ?_
  refine x_istore C (lv' := [(9, _), (7, _), (5, _), (3, _), (0, _), (1, _), (2, _)]) dX6_digit_52 (by decide) rfl ?_
  have hm0 := Int.emod_nonneg hh (show ρ 25 (nn - 1) ≠ 0 by omega)
  have hm1 := Int.emod_lt_of_pos hh (show 0 < ρ 25 (nn - 1) by omega)
  have hdm := Int.mul_ediv_add_emod hh (ρ 25 (nn - 1))
  rw [Int.mul_comm] at hdm
  have hdl : hh / ρ 25 (nn - 1) < 8589934592 := Int.ediv_lt_of_lt_mul (by omega) (by omega)
  refine rp_digG C ρ jj nn hnn hjn hV hU hv1 q hh _ hq.1 hA1 ?_ 9 _ _ (by omega) ⟨hqd, hdl, hdm, hm0, by omega⟩
  intro d lf i9 hi hx
  obtain ⟨hdB, hdq⟩ := hA2 d lf hi.1 hi.2.2.1 hi.2.2.2 hx
  refine x_lconst0 C dX6_digit_150 ?_
  refine x_lstore C (lv' := [(10, _), (9, _), (7, _), (5, _), (3, _), (0, _), (1, _), (2, _)]) dX6_digit_151 (by decide) rfl ?_
  refine x_lconst0 C dX6_digit_153 ?_
  refine x_lstore C (lv' := [(12, _), (10, _), (9, _), (7, _), (5, _), (3, _), (0, _), (1, _), (2, _)]) dX6_digit_154 (by decide) rfl ?_
  refine x_iconst C dX6_digit_156 ?_
  refine x_istore C (lv' := [(14, _), (12, _), (10, _), (9, _), (7, _), (5, _), (3, _), (0, _), (1, _), (2, _)]) dX6_digit_157 (by decide) rfl ?_
  refine X.sub [0, 1, 2, 5, 7, 8, 9] rfl ?_
  refine rp_digS C ρ jj nn hnn hjn hV d ⟨by omega, hdB⟩ (ρ 24) ?_ (nn + 1) 0 (by omega) (by omega) ρ 0 0 hU (fun q hq => rfl) (fun q hq => rfl) (by omega) (by omega) (by simp [nv_0])
  intro ρ1 un cy i14 g1 g2 g3 g4 g5 g6
  have hN0 : 0 ≤ nv (ρ1 24) jj nn ∧ nv (ρ1 24) jj nn < 2147483648 ^ nn := ⟨nv_ge (fun i hi => g1 _ (by omega) (by omega)), nv_lt (fun i hi => g1 _ (by omega) (by omega))⟩
  have hPn : (0 : Int) < 2147483648 ^ nn := Int.pow_pos (by decide)
  have e1 := g2 (jj + nn) (by omega)
  have eU := nv_s (ρ 24) jj nn
  have hsp : nv (ρ 24) jj (nn + 1) - d * nv (ρ 25) 0 nn = nv (ρ1 24) jj nn + (ρ 24 (jj + nn) - cy - un) * 2147483648 ^ nn := by
    have : (ρ 24 (jj + nn) - cy - un) * 2147483648 ^ nn = ρ 24 (jj + nn) * 2147483648 ^ nn + (-(cy + un)) * 2147483648 ^ nn := by rw [← Int.add_mul]; congr 1; omega
    omega
  have hspl := split_u hPn hN0 hsp
  have hdc : d = q ∨ d = q + 1 := by omega
  refine x_aload_n C dX6_digit_258 rfl rfl ?_
  refine x_get C (Cn := RX6) (T := TX6) (N := 33) (ci := 6) 24 dX6_digit_259 m_w_6 m_f_RX6_66 rfl (by decide) rfl rfl ?_
  refine x_iload_n C dX6_digit_262 rfl rfl ?_
  refine x_iload_n C dX6_digit_263 rfl rfl ?_
  refine x_iadd C dX6_digit_264 ?_
  refine x_iald C dX6_digit_265 rfl (by omega) (by omega) ?_
  rw [show ((jj : Int) + (nn : Int)).toNat = jj + nn by omega, e1]
  refine x_i2l C dX6_digit_266 (by omega) ?_
  refine x_lload C dX6_digit_267 rfl ?_
  refine x_lsub C dX6_digit_269 ?_
  refine x_lload C dX6_digit_270 rfl ?_
  refine x_lsub C dX6_digit_272 ?_
  obtain ⟨tt, ht⟩ : ∃ tt, tt = ρ 24 (jj + nn) - cy - un := ⟨_, rfl⟩
  rw [← ht] at hspl ⊢
  refine x_lstore C (lv' := [(14, _), (12, _), (10, _), (5, _), (0, _), (1, _), (2, _)]) dX6_digit_273 (by decide) rfl ?_
  refine x_lload C dX6_digit_275 rfl ?_
  refine x_lconst0 C dX6_digit_277 ?_
  refine x_lif_ge (tgt := 360) C dX6_digit_278 dX6_digit_279 (by decide) (by omega) (by omega) (fun c_278 => ?_) (fun c_278 => ?_)
  · obtain rfl : d = q := by
      rcases hdc with q1 | q1
      · exact q1
      · have hx1 : (q + 1) * nv (ρ 25) 0 nn = q * nv (ρ 25) 0 nn + nv (ρ 25) 0 nn := by rw [Int.add_mul, Int.one_mul]
        rw [q1] at hspl
        have := (hspl.2 (by omega) (by omega)).1
        omega
    obtain ⟨ht0, hN⟩ := hspl.1 (by omega) (by omega)
    refine x_aload_n C dX6_digit_360 rfl rfl ?_
    refine x_get C (Cn := RX6) (T := TX6) (N := 33) (ci := 6) 24 dX6_digit_361 m_w_6 m_f_RX6_66 rfl (by decide) rfl rfl ?_
    refine x_iload_n C dX6_digit_364 rfl rfl ?_
    refine x_iload_n C dX6_digit_365 rfl rfl ?_
    refine x_iadd C dX6_digit_366 ?_
    refine x_lload C dX6_digit_367 rfl ?_
    refine x_l2i C dX6_digit_369 ?_
    refine r_ast C dX6_digit_370 (fun _ => rfl) (by omega) (by omega) ?_
    rw [show ((jj : Int) + (nn : Int)).toNat = jj + nn by omega, ht0]
    refine x_lload C dX6_digit_371 rfl ?_
    exact x_lret C dX6_digit_373 ⟨_, rfl, rfl, fun q hq => by rw [up_n hq]; exact g3 q hq, fun q hq => by rw [up_s, zup_n (by omega)]; exact g2 q (by omega), fun i h1 h2 => by
        rw [up_s]
        by_cases c : i = jj + nn
        · rw [c, zup_s]; decide
        · rw [zup_n c]; exact g1 i h1 h2, by rw [up_s, zup_s], by
        rw [up_s, nv_ext (g := ρ1 24) (b := jj) (fun i hi => zup_n (by omega))]; omega⟩
  · obtain rfl : d = q + 1 := by
      rcases hdc with q1 | q1
      · rw [q1] at hspl
        have := (hspl.1 (by omega) (by omega)).1
        omega
      · exact q1
    have hx1 : (q + 1) * nv (ρ 25) 0 nn = q * nv (ρ 25) 0 nn + nv (ρ 25) 0 nn := by rw [Int.add_mul, Int.one_mul]
    obtain ⟨ht0, hN⟩ := hspl.2 (by omega) (by omega)
    refine x_lload C dX6_digit_282 rfl ?_
    refine x_lconst1 C dX6_digit_284 ?_
    refine x_lsub C dX6_digit_285 ?_
    refine x_lstore C (lv' := [(5, _), (14, _), (12, _), (10, _), (0, _), (1, _), (2, _)]) dX6_digit_286 (by decide) rfl ?_
    refine x_lconst0 C dX6_digit_288 ?_
    refine x_lstore C (lv' := [(16, _), (5, _), (14, _), (12, _), (10, _), (0, _), (1, _), (2, _)]) dX6_digit_289 (by decide) rfl ?_
    refine x_iconst C dX6_digit_291 ?_
    refine x_istore C (lv' := [(18, _), (16, _), (5, _), (14, _), (12, _), (10, _), (0, _), (1, _), (2, _)]) dX6_digit_292 (by decide) rfl ?_
    refine X.sub [0, 1, 3, 2, 6, 7, 8] rfl ?_
    refine rp_digB C ρ jj nn hnn hjn hV _ tt (ρ1 24) ?_ (nn + 1) 0 (by omega) (by omega) ρ1 0 g1 (fun q hq => rfl) g3 (by omega) (by simp [nv_0])
    intro ρ2 ov i18 k1 k2 k3 k4 k5
    have hN2 : 0 ≤ nv (ρ2 24) jj nn ∧ nv (ρ2 24) jj nn < 2147483648 ^ nn := ⟨nv_ge (fun i hi => k1 _ (by omega) (by omega)), nv_lt (fun i hi => k1 _ (by omega) (by omega))⟩
    have hov : ov = 1 := by
      rcases (show ov = 0 ∨ ov = 1 by omega) with q1 | q1
      · rw [q1, Int.zero_mul] at k5; omega
      · exact q1
    rw [hov, Int.one_mul] at k5
    refine x_lload C dX6_digit_353 rfl ?_
    refine x_lload C dX6_digit_355 rfl ?_
    refine x_ladd C dX6_digit_357 ?_
    refine x_lstore C (lv' := [(14, _), (18, _), (16, _), (5, _), (0, _), (1, _), (2, _)]) dX6_digit_358 (by decide) rfl ?_
    refine x_aload_n C dX6_digit_360 rfl rfl ?_
    refine x_get C (Cn := RX6) (T := TX6) (N := 33) (ci := 6) 24 dX6_digit_361 m_w_6 m_f_RX6_66 rfl (by decide) rfl rfl ?_
    refine x_iload_n C dX6_digit_364 rfl rfl ?_
    refine x_iload_n C dX6_digit_365 rfl rfl ?_
    refine x_iadd C dX6_digit_366 ?_
    refine x_lload C dX6_digit_367 rfl ?_
    refine x_l2i C dX6_digit_369 ?_
    refine r_ast C dX6_digit_370 (fun _ => rfl) (by omega) (by omega) ?_
    rw [show ((jj : Int) + (nn : Int)).toNat = jj + nn by omega, ht0, hov]
    skip
    refine x_lload C dX6_digit_371 rfl ?_
    exact x_lret C dX6_digit_373 ⟨_, rfl, by rw [show q + 1 - 1 = q by omega], fun q hq => by rw [up_n hq]; exact k3 q hq, fun q hq => by rw [up_s, zup_n (by omega), k2 q (by omega)]; exact g2 q (by omega), fun i h1 h2 => by
        rw [up_s]
        by_cases c : i = jj + nn
        · rw [c, zup_s]; decide
        · rw [zup_n c]; exact k1 i h1 h2, by rw [up_s, zup_s]; rfl, by
        rw [up_s, nv_ext (g := ρ2 24) (b := jj) (fun i hi => zup_n (by omega))]; omega⟩
