set_option maxHeartbeats 4000000 in
set_option maxRecDepth 100000 in
theorem r_reckon0 {l : Launch} {D : va_G} {ad : Nat → Nat} (ρ : St) (hL : LMr ρ) (j a b h Aa na Ab nb Ar nr : Nat) (hj : j < 12) (eop : ρ 13 j = 0) (eh : ρ 18 j = h) (ea : ρ 14 j = a) (eb : ρ 15 j = b) (hab : a < 24 ∧ b < 24 ∧ h < 24) (hAa : ρ 8 a = Aa) (hna : ρ 7 a = na) (hla : Aa + na ≤ 2048) (hAb : ρ 8 b = Ab) (hnb : ρ 7 b = nb) (hlb : Ab + nb ≤ 2048) (hAr : ρ 8 h = Ar) (hnr : ρ 7 h = nr) (hlr : Ar + nr ≤ 2048) (hfit : na + nb ≤ nr) : Rt l D ad yX6_reckon (Cond.code yX6_reckon cX6_reckon 5 none :: tb) 3 160 [.ref (ad 0), vi (j : Int)] ρ (fun v ρ' => v = none ∧ RRP ρ ρ' Ar nr (nv (ρ 4) Aa na * nv (ρ 4) Ab nb)) := by
  refine ct_of (by decide) rfl (Nat.le_of_ble_eq_true rfl) ?_
  intro p e s m below meth c C
  change X _ _ _ _ _ _ _ _ _ _ _ _ _ _ _ _ [(0, .ref (ad 0)), (1, vi (j : Int))] _
  refine x_aload_n C dX6_reckon_0 rfl rfl ?_
  refine x_get C (Cn := RX6) (T := TX6) (N := 33) (ci := 6) 18 dX6_reckon_1 m_w_6 m_f_RX6_54 rfl (by decide) rfl rfl ?_
  refine x_iload_n C dX6_reckon_4 rfl rfl ?_
  refine x_iald C dX6_reckon_5 rfl (by omega) (by omega) ?_
  rw [Int.toNat_natCast, eh]
  refine x_istore_n C (lv' := [(2, _), (0, _), (1, _)]) dX6_reckon_6 rfl (by decide) rfl ?_
  refine x_aload_n C dX6_reckon_7 rfl rfl ?_
  refine x_get C (Cn := RX6) (T := TX6) (N := 33) (ci := 6) 13 dX6_reckon_8 m_w_6 m_f_RX6_38 rfl (by decide) rfl rfl ?_
  refine x_iload_n C dX6_reckon_11 rfl rfl ?_
  refine x_iald C dX6_reckon_12 rfl (by omega) (by omega) ?_
  rw [Int.toNat_natCast, eop]
  refine x_tableIn (off := 27) (tgt := 40) C dX6_reckon_13 (by omega) (by omega) (by omega) rfl (by decide) ?_
  refine x_aload_n C dX6_reckon_40 rfl rfl ?_
  refine x_aload_n C dX6_reckon_41 rfl rfl ?_
  refine x_get C (Cn := RX6) (T := TX6) (N := 33) (ci := 6) 14 dX6_reckon_42 m_w_6 m_f_RX6_41 rfl (by decide) rfl rfl ?_
  refine x_iload_n C dX6_reckon_45 rfl rfl ?_
  refine x_iald C dX6_reckon_46 rfl (by omega) (by omega) ?_
  rw [Int.toNat_natCast, ea]
  refine x_callV C (ci := 6) (nn := 1) (r_loadU ρ hL a Aa na hab.1 hAa hna hla) g_RX6_203 rfl (by decide +kernel) ⟨by first | decide | omega, by first | decide | omega⟩ rfl rfl rfl rfl rfl (Nat.le_of_ble_eq_true rfl) dX6_reckon_47 (fun v h1 hp => ?_)
  obtain ⟨ρ1, rfl, rfl, ru, hru, e1⟩ := hp
  obtain ⟨hU, eU⟩ := sg_nrm (f := ρ 24) hL hla hru
  have hru1 := hru.1
  have f24 : ρ1 24 = mvF (ρ 24) (fun k => ρ 4 (Aa + k)) ru := by rw [e1, upr_s]
  have f0 : ρ1 0 = zup (ρ 0) 29 (ru : Int) := by rw [e1, upr_n (by decide), up_s]
  have fr : ∀ q, q ≠ 0 → q ≠ 24 → ρ1 q = ρ q := fun q q0 q24 => by rw [e1, upr_n q24, up_n q0]
  rw [← f24] at hU eU
  clear e1
  refine x_aload_n C dX6_reckon_50 rfl rfl ?_
  refine x_callV C (ci := 6) (nn := 0) (r_uToR ρ1 ru (by omega) (by rw [f0, zup_s])) g_RX6_206 rfl (by decide +kernel) ⟨by first | decide | omega, by first | decide | omega⟩ rfl rfl rfl rfl rfl (Nat.le_of_ble_eq_true rfl) dX6_reckon_51 (fun v h1 hp => ?_)
  obtain ⟨ρ2, rfl, rfl, e2⟩ := hp
  have k28 : ∀ i, i < ru → ρ2 28 i = ρ1 24 i := fun i hi => by rw [e2, upr_s]; unfold mvF; rw [if_pos hi]
  have k0 : ρ2 0 = zup (ρ1 0) 32 (ru : Int) := by rw [e2, upr_n (by decide), up_s]
  have kr : ∀ q, q ≠ 0 → q ≠ 28 → ρ2 q = ρ1 q := fun q q0 q28 => by rw [e2, upr_n q28, up_n q0]
  clear e2
  have hR2 : NRM (ρ2 28) ru := hU.ext k28
  have eR2 : nv (ρ2 28) 0 ru = nv (ρ 4) Aa na := by rw [← eU]; exact nv_ext (fun i hi => k28 _ (by omega))
  have kk : ∀ q, q ≠ 0 → q ≠ 24 → q ≠ 28 → ρ2 q = ρ q := fun q q0 q24 q28 => by rw [kr q q0 q28, fr q q0 q24]
  have k4 : ρ2 4 = ρ 4 := kk 4 (by decide) (by decide) (by decide)
  refine x_aload_n C dX6_reckon_54 rfl rfl ?_
  refine x_aload_n C dX6_reckon_55 rfl rfl ?_
  refine x_get C (Cn := RX6) (T := TX6) (N := 33) (ci := 6) 15 dX6_reckon_56 m_w_6 m_f_RX6_44 rfl (by decide) rfl rfl ?_
  refine x_iload_n C dX6_reckon_59 rfl rfl ?_
  refine x_iald C dX6_reckon_60 rfl (by omega) (by omega) ?_
  rw [Int.toNat_natCast, kk 15 (by decide) (by decide) (by decide), eb]
  refine x_callV C (ci := 6) (nn := 1) (r_loadU ρ2 (hL.row k4) b Ab nb hab.2.1 (by rw [kk 8 (by decide) (by decide) (by decide)]; exact hAb) (by rw [kk 7 (by decide) (by decide) (by decide)]; exact hnb) hlb) g_RX6_203 rfl (by decide +kernel) ⟨by first | decide | omega, by first | decide | omega⟩ rfl rfl rfl rfl rfl (Nat.le_of_ble_eq_true rfl) dX6_reckon_61 (fun v h1 hp => ?_)
  obtain ⟨ρ3, rfl, rfl, rv, hrv, e3⟩ := hp
  rw [k4] at hrv e3
  obtain ⟨hV, eV⟩ := sg_nrm (f := ρ2 24) hL hlb hrv
  have hrv1 := hrv.1
  have f24' : ρ3 24 = mvF (ρ2 24) (fun k => ρ 4 (Ab + k)) rv := by rw [e3, upr_s]
  have l0 : ρ3 0 = zup (ρ2 0) 29 (rv : Int) := by rw [e3, upr_n (by decide), up_s]
  have lr : ∀ q, q ≠ 0 → q ≠ 24 → ρ3 q = ρ2 q := fun q q0 q24 => by rw [e3, upr_n q24, up_n q0]
  rw [← f24'] at hV eV
  clear e3
  refine x_aload_n C dX6_reckon_64 rfl rfl ?_
  refine x_aload_n C dX6_reckon_65 rfl rfl ?_
  refine x_get C (Cn := RX6) (T := TX6) (N := 33) (ci := 6) 29 dX6_reckon_66 m_w_6 m_f_RX6_179 rfl (by decide) rfl rfl ?_
  rw [l0, zup_s]
  refine r_put C 31 (by decide) (by decide) dX6_reckon_69 m_f_RX6_197 rfl (by decide +kernel) ?_
  refine x_iconst C dX6_reckon_72 ?_
  refine x_istore_n C (lv' := [(3, _), (2, _), (0, _), (1, _)]) dX6_reckon_73 rfl (by decide) rfl ?_
  refine rp_recX C (up ρ3 0 31 (rv : Int)) rv j h (by omega) (by rw [up_s, zup_n (by decide), l0, zup_s]) ?_ (rv + 1) 0 (by omega) (by omega) _ (mv_0 _ _ _).symm
  obtain ⟨ρ4, e4⟩ : ∃ ρ4, ρ4 = upr (up ρ3 0 31 (rv : Int)) 27 (mvF (up ρ3 0 31 (rv : Int) 27) (up ρ3 0 31 (rv : Int) 24) rv) := ⟨_, rfl⟩
  rw [← e4]
  have m27 : ∀ i, i < rv → ρ4 27 i = ρ3 24 i := fun i hi => by rw [e4, upr_s, up_n (show 24 ≠ 0 by decide)]; unfold mvF; rw [if_pos hi]
  have m0 : ρ4 0 = zup (ρ3 0) 31 (rv : Int) := by rw [e4, upr_n (by decide), up_s]
  have mr : ∀ q, q ≠ 0 → q ≠ 27 → ρ4 q = ρ3 q := fun q q0 q27 => by rw [e4, upr_n q27, up_n q0]
  clear e4
  have hX4 : NRM (ρ4 27) rv := hV.ext m27
  have eX4 : nv (ρ4 27) 0 rv = nv (ρ 4) Ab nb := by rw [← eV]; exact nv_ext (fun i hi => m27 _ (by omega))
  have m28 : ρ4 28 = ρ2 28 := by rw [mr 28 (by decide) (by decide), lr 28 (by decide) (by decide)]
  refine x_aload_n C dX6_reckon_100 rfl rfl ?_
  refine x_iconst C dX6_reckon_101 ?_
  refine x_callV C (ci := 6) (nn := 1) (r_times ρ4 ru rv 27 1 (Or.inl ⟨rfl, rfl, by rw [m0, zup_s]⟩) (by rw [m0, zup_n (by decide), l0, zup_n (by decide), k0, zup_s]) (by omega) (by rw [m28]; exact hR2.1) hX4.1) g_RX6_209 rfl (by decide +kernel) ⟨by first | decide | omega, by first | decide | omega⟩ rfl rfl rfl rfl rfl (Nat.le_of_ble_eq_true rfl) dX6_reckon_102 (fun v h1 hp => ?_)
  obtain ⟨ρ5, rfl, rfl, un, u1, u2, u3, u4, u5⟩ := hp
  rw [m28, eR2, eX4] at u5
  have u6 : ∀ q, q ≠ 0 → q ≠ 24 → q ≠ 27 → q ≠ 28 → ρ5 q = ρ q := fun q q0 q24 q27 q28 => by rw [u2 q q24 q0, mr q q0 q27, lr q q0 q24, kk q q0 q24 q28]
  refine x_aload_n C dX6_reckon_105 rfl rfl ?_
  refine x_iload_n C dX6_reckon_106 rfl rfl ?_
  refine x_callV C (ci := 6) (nn := 1) (r_putU ρ5 h Ar nr un hab.2.2 (by rw [u6 8 (by decide) (by decide) (by decide) (by decide)]; exact hAr) (by rw [u6 7 (by decide) (by decide) (by decide) (by decide)]; exact hnr) hlr (by rw [u3, zup_s]) (by omega)) g_RX6_213 rfl (by decide +kernel) ⟨by first | decide | omega, by first | decide | omega⟩ rfl rfl rfl rfl rfl (Nat.le_of_ble_eq_true rfl) dX6_reckon_107 (fun v h1 hp => ?_)
  obtain ⟨ρ6, rfl, rfl, rfl⟩ := hp
  refine x_goto (tgt := 275) C dX6_reckon_110 (by decide) ?_
  exact x_vret C dX6_reckon_275 ⟨_, rfl, rfl, rr_of hL (fun q q0 q24 _ _ q27 q28 => u6 q q0 q24 q27 q28) (fun k hk => by rw [u3, zup_n (by omega), m0, zup_n (by omega), l0, zup_n (by omega), k0, zup_n (by omega), f0, zup_n (by omega)]) u4.1 (by omega) u5⟩
set_option maxHeartbeats 4000000 in
set_option maxRecDepth 100000 in
theorem r_reckon1 {l : Launch} {D : va_G} {ad : Nat → Nat} (ρ : St) (hL : LMr ρ) (j a b h Aa na Ab nb Ar nr : Nat) (hj : j < 12) (eop : ρ 13 j = 1) (eh : ρ 18 j = h) (ea : ρ 14 j = a) (eb : ρ 15 j = b) (hab : a < 24 ∧ b < 24 ∧ h < 24) (hAa : ρ 8 a = Aa) (hna : ρ 7 a = na) (hla : Aa + na ≤ 2048) (hAb : ρ 8 b = Ab) (hnb : ρ 7 b = nb) (hlb : Ab + nb ≤ 2048) (hAr : ρ 8 h = Ar) (hnr : ρ 7 h = nr) (hlr : Ar + nr ≤ 2048) (hbp : nv (ρ 4) Ab nb ≠ 0) (hfit : na ≤ nr) : Rt l D ad yX6_reckon (Cond.code yX6_reckon cX6_reckon 5 none :: tb) 3 160 [.ref (ad 0), vi (j : Int)] ρ (fun v ρ' => v = none ∧ RRP ρ ρ' Ar nr (nv (ρ 4) Aa na / nv (ρ 4) Ab nb)) := by
  refine ct_of (by decide) rfl (Nat.le_of_ble_eq_true rfl) ?_
  intro p e s m below meth c C
  change X _ _ _ _ _ _ _ _ _ _ _ _ _ _ _ _ [(0, .ref (ad 0)), (1, vi (j : Int))] _
  refine x_aload_n C dX6_reckon_0 rfl rfl ?_
  refine x_get C (Cn := RX6) (T := TX6) (N := 33) (ci := 6) 18 dX6_reckon_1 m_w_6 m_f_RX6_54 rfl (by decide) rfl rfl ?_
  refine x_iload_n C dX6_reckon_4 rfl rfl ?_
  refine x_iald C dX6_reckon_5 rfl (by omega) (by omega) ?_
  rw [Int.toNat_natCast, eh]
  refine x_istore_n C (lv' := [(2, _), (0, _), (1, _)]) dX6_reckon_6 rfl (by decide) rfl ?_
  refine x_aload_n C dX6_reckon_7 rfl rfl ?_
  refine x_get C (Cn := RX6) (T := TX6) (N := 33) (ci := 6) 13 dX6_reckon_8 m_w_6 m_f_RX6_38 rfl (by decide) rfl rfl ?_
  refine x_iload_n C dX6_reckon_11 rfl rfl ?_
  refine x_iald C dX6_reckon_12 rfl (by omega) (by omega) ?_
  rw [Int.toNat_natCast, eop]
  refine x_tableIn (off := 100) (tgt := 113) C dX6_reckon_13 (by omega) (by omega) (by omega) rfl (by decide) ?_
  refine x_aload_n C dX6_reckon_113 rfl rfl ?_
  refine x_aload_n C dX6_reckon_114 rfl rfl ?_
  refine x_get C (Cn := RX6) (T := TX6) (N := 33) (ci := 6) 14 dX6_reckon_115 m_w_6 m_f_RX6_41 rfl (by decide) rfl rfl ?_
  refine x_iload_n C dX6_reckon_118 rfl rfl ?_
  refine x_iald C dX6_reckon_119 rfl (by omega) (by omega) ?_
  rw [Int.toNat_natCast, ea]
  refine x_callV C (ci := 6) (nn := 1) (r_loadU ρ hL a Aa na hab.1 hAa hna hla) g_RX6_203 rfl (by decide +kernel) ⟨by first | decide | omega, by first | decide | omega⟩ rfl rfl rfl rfl rfl (Nat.le_of_ble_eq_true rfl) dX6_reckon_120 (fun v h1 hp => ?_)
  obtain ⟨ρ1, rfl, rfl, ru, hru, e1⟩ := hp
  obtain ⟨hU, eU⟩ := sg_nrm (f := ρ 24) hL hla hru
  have hru1 := hru.1
  have f24 : ρ1 24 = mvF (ρ 24) (fun k => ρ 4 (Aa + k)) ru := by rw [e1, upr_s]
  have f0 : ρ1 0 = zup (ρ 0) 29 (ru : Int) := by rw [e1, upr_n (by decide), up_s]
  have fr : ∀ q, q ≠ 0 → q ≠ 24 → ρ1 q = ρ q := fun q q0 q24 => by rw [e1, upr_n q24, up_n q0]
  rw [← f24] at hU eU
  clear e1
  refine x_aload_n C dX6_reckon_123 rfl rfl ?_
  refine x_aload_n C dX6_reckon_124 rfl rfl ?_
  refine x_get C (Cn := RX6) (T := TX6) (N := 33) (ci := 6) 15 dX6_reckon_125 m_w_6 m_f_RX6_44 rfl (by decide) rfl rfl ?_
  refine x_iload_n C dX6_reckon_128 rfl rfl ?_
  refine x_iald C dX6_reckon_129 rfl (by omega) (by omega) ?_
  rw [Int.toNat_natCast, fr 15 (by decide) (by decide), eb]
  refine x_callV C (ci := 6) (nn := 1) (r_loadV ρ1 (hL.row (fr 4 (by decide) (by decide))) b Ab nb hab.2.1 (by rw [fr 8 (by decide) (by decide)]; exact hAb) (by rw [fr 7 (by decide) (by decide)]; exact hnb) hlb) g_RX6_216 rfl (by decide +kernel) ⟨by first | decide | omega, by first | decide | omega⟩ rfl rfl rfl rfl rfl (Nat.le_of_ble_eq_true rfl) dX6_reckon_130 (fun v h1 hp => ?_)
  obtain ⟨ρ3, rfl, rfl, rv, hrv, e3⟩ := hp
  rw [fr 4 (by decide) (by decide)] at hrv e3
  obtain ⟨hV, eV⟩ := sg_nrm (f := ρ1 25) hL hlb hrv
  have hrv1 := hrv.1
  have f25' : ρ3 25 = mvF (ρ1 25) (fun k => ρ 4 (Ab + k)) rv := by rw [e3, upr_s]
  have l0 : ρ3 0 = zup (ρ1 0) 30 (rv : Int) := by rw [e3, upr_n (by decide), up_s]
  have lr : ∀ q, q ≠ 0 → q ≠ 25 → ρ3 q = ρ1 q := fun q q0 q25 => by rw [e3, upr_n q25, up_n q0]
  rw [← f25'] at hV eV
  clear e3
  have l24 : ρ3 24 = ρ1 24 := lr 24 (by decide) (by decide)
  rw [← l24] at hU eU
  have l29 : ρ3 0 29 = ru := by rw [l0, zup_n (by decide), f0, zup_s]
  have l30 : ρ3 0 30 = rv := by rw [l0, zup_s]
  have hvp : 0 < rv := by
    rcases Nat.eq_zero_or_pos rv with c | c
    · rw [c, nv_0] at eV; exact absurd eV.symm hbp
    · exact c
  have lk0 : ∀ k, k < 29 → ρ3 0 k = ρ 0 k := fun k hk => by rw [l0, zup_n (by omega), f0, zup_n (by omega)]
  have lk1 : ∀ q, q ≠ 0 → q ≠ 24 → q ≠ 25 → ρ3 q = ρ q := fun q q0 q24 q25 => by rw [lr q q0 q25, fr q q0 q24]
  refine x_aload_n C dX6_reckon_133 rfl rfl ?_
  refine x_get C (Cn := RX6) (T := TX6) (N := 33) (ci := 6) 29 dX6_reckon_134 m_w_6 m_f_RX6_179 rfl (by decide) rfl rfl ?_
  rw [l29]
  refine x_aload_n C dX6_reckon_137 rfl rfl ?_
  refine x_get C (Cn := RX6) (T := TX6) (N := 33) (ci := 6) 30 dX6_reckon_138 m_w_6 m_f_RX6_182 rfl (by decide) rfl rfl ?_
  rw [l30]
  refine x_isub C dX6_reckon_141 ?_
  refine x_iconst C dX6_reckon_142 ?_
  refine x_iadd C dX6_reckon_143 ?_
  refine x_istore_n C (lv' := [(3, _), (2, _), (0, _), (1, _)]) dX6_reckon_144 rfl (by decide) rfl ?_
  refine x_aload_n C dX6_reckon_145 rfl rfl ?_
  refine x_callV C (ci := 6) (nn := 0) (r_divide ρ3 ru rv l29 l30 (by omega) (by omega) hU hV) g_RX6_219 rfl (by decide +kernel) ⟨by first | decide | omega, by first | decide | omega⟩ rfl rfl rfl rfl rfl (Nat.le_of_ble_eq_true rfl) dX6_reckon_146 (fun v h1 hp => ?_)
  obtain ⟨ρ4, rfl, rfl, hD⟩ := hp
  obtain ⟨r, er, hrn, d1, d2, d3, d4⟩ : ∃ r : Nat, r = ((ru : Int) - (rv : Int) + 1).toNat ∧ r ≤ nr ∧ (∀ q, q ≠ 0 → q ≠ 24 → q ≠ 25 → q ≠ 26 → ρ4 q = ρ q) ∧ (∀ k, k < 29 → ρ4 0 k = ρ 0 k) ∧ (∀ i, i < r → 0 ≤ ρ4 26 i ∧ ρ4 26 i < 2147483648) ∧ nv (ρ4 26) 0 r = nv (ρ 4) Aa na / nv (ρ 4) Ab nb := by
    rw [← eU, ← eV]
    rcases hD with ⟨c, rfl⟩ | ⟨c, rn, p1, p2, p3, p4, p5, p6, p7, p8⟩
    · exact ⟨0, by omega, by omega, fun q q0 q24 q25 _ => lk1 q q0 q24 q25, lk0, fun i hi => by omega, by rw [nv_0, Int.ediv_eq_zero_of_lt (nv_ge (lim0 hU.1)) (hU.lt hV c)]⟩
    · exact ⟨ru + 1 - rv, by omega, by omega, fun q q0 q24 q25 q26 => by rw [p3 q q0 q24 q25 q26]; exact lk1 q q0 q24 q25, fun k hk => by rw [p2, zup_n (by omega)]; exact lk0 k hk, p7, p8⟩
  refine x_iconst C dX6_reckon_149 ?_
  refine x_istore C (lv' := [(4, _), (3, _), (2, _), (0, _), (1, _)]) dX6_reckon_150 (by decide) rfl ?_
  refine rp_recQ C ρ4 h Ar nr r j _ (by omega) er hab.2.2 (by rw [d1 8 (by decide) (by decide) (by decide) (by decide)]; exact hAr) (by rw [d1 7 (by decide) (by decide) (by decide) (by decide)]; exact hnr) hlr ?_ (nr + 1) 0 (by omega) (by omega) _ (pt_0 _ _ _ _).symm
  intro lv
  refine x_goto (tgt := 275) C dX6_reckon_200 (by decide) ?_
  exact x_vret C dX6_reckon_275 ⟨_, rfl, rfl, rr_of hL (fun q q0 q24 q25 q26 _ _ => d1 q q0 q24 q25 q26) d2 d3 hrn d4⟩
