set_option maxHeartbeats 4000000 in
set_option maxRecDepth 100000 in
theorem rp_powX {p : Program} {l : Launch} {e : Env} {R : Room} {s : State} {m : MethodId} {args : Array Value} {below : List Frame} {meth : Method} {c : Code} {D : va_G} {ad : Nat → Nat} {Q : State → Prop} (C : Fx p s m args meth c D ad cX6_power 4 none yX6_power.cls tb) (ρ : St) (r j : Nat) (hr : r ≤ 2100) (hf : ρ 0 29 = r) (K : ∀ lv : List (Nat × Value), lv = [(0, .ref (ad 0)), (1, vi (j : Int))] → X p l e R s m args below meth c D ad 4 Q (rc D ad (upr ρ 27 (mvF (ρ 27) (ρ 24) r))) 60 lv []) (n i : Nat) (hn : r - i < n) (hi : i ≤ r) (ρ1 : St) (e1 : ρ1 = upr ρ 27 (mvF (ρ 27) (ρ 24) i)) : X p l e R s m args below meth c D ad 4 Q (rc D ad ρ1) 34 [(2, vi (i : Int)), (0, .ref (ad 0)), (1, vi (j : Int))] [] := by
  induction n generalizing i ρ1 with
  | zero => omega
  | succ n ih =>
  refine x_iload_n C dX6_power_34 rfl rfl ?_
  refine x_aload_n C dX6_power_35 rfl rfl ?_
  refine x_get C (Cn := RX6) (T := TX6) (N := 33) (ci := 6) 29 dX6_power_36 m_w_6 m_f_RX6_179 rfl (by decide) rfl rfl ?_
  rw [show ρ1 0 29 = r by rw [e1, upr_n (by decide)]; exact hf]
  refine x_icmp_ge (tgt := 60) C dX6_power_39 (by decide) (by omega) (by omega) (fun c_39 => ?_) (fun c_39 => ?_)
  · obtain rfl : i = r := by omega
    rw [e1]
    refine X.sub [1, 2] rfl ?_
    exact K _ rfl
  · refine x_aload_n C dX6_power_42 rfl rfl ?_
    refine x_get C (Cn := RX6) (T := TX6) (N := 33) (ci := 6) 27 dX6_power_43 m_w_6 m_f_RX6_75 rfl (by decide) rfl rfl ?_
    refine x_iload_n C dX6_power_46 rfl rfl ?_
    refine x_aload_n C dX6_power_47 rfl rfl ?_
    refine x_get C (Cn := RX6) (T := TX6) (N := 33) (ci := 6) 24 dX6_power_48 m_w_6 m_f_RX6_66 rfl (by decide) rfl rfl ?_
    refine x_iload_n C dX6_power_51 rfl rfl ?_
    refine x_iald C dX6_power_52 rfl (by omega) (by omega) ?_
    rw [Int.toNat_natCast, show ρ1 24 = ρ 24 by rw [e1, upr_n (by decide)]]
    refine r_ast C dX6_power_53 (fun _ => rfl) (by omega) (by omega) ?_
    refine x_iinc C (lv' := [(2, _), (0, _), (1, _)]) dX6_power_54 rfl (by decide) rfl ?_
    refine x_goto (tgt := 34) C dX6_power_57 (by decide) ?_
    rw [show (i : Int) + 1 = ((i + 1 : Nat) : Int) by omega]
    refine ih (i + 1) (by omega) (by omega) _ ?_
    rw [Int.toNat_natCast, e1]
    exact mv_step ρ 27 i (ρ 24)
def POP (ρ ρ' : St) (P : Int) : Prop := ∃ rn : Nat, rn ≤ 2048 ∧ ρ' 0 32 = rn ∧ (∀ k, k ≠ 29 → k ≠ 30 → k ≠ 31 → k ≠ 32 → ρ' 0 k = ρ 0 k) ∧ (∀ q, q ≠ 0 → q ≠ 24 → q ≠ 25 → q ≠ 26 → q ≠ 27 → q ≠ 28 → ρ' q = ρ q) ∧ NRM (ρ' 28) rn ∧ nv (ρ' 28) 0 rn = P
theorem B31 : ∀ r : Nat, (2147483648 : Int) ^ r = ((2 ^ (31 * r) : Nat) : Int)
  | 0 => rfl
  | r + 1 => by rw [bp_s, B31 r, show 31 * (r + 1) = 31 * r + 31 by omega, Nat.pow_add, Int.natCast_mul]; rfl
set_option maxHeartbeats 4000000 in
set_option maxRecDepth 100000 in
theorem r_power {l : Launch} {D : va_G} {ad : Nat → Nat} (ρ : St) (hL : LMr ρ) (j a b m0 Aa na Ab nb Am nm : Nat) (hj : j < 12) (ea : ρ 14 j = a) (eb : ρ 15 j = b) (em : ρ 16 j = m0) (hab : a < 24 ∧ b < 24 ∧ m0 < 24) (hAa : ρ 8 a = Aa) (hna : ρ 7 a = na) (hla : Aa + na ≤ 2048) (hAb : ρ 8 b = Ab) (hnb : ρ 7 b = nb) (hlb : Ab + nb ≤ 2048) (hAm : ρ 8 m0 = Am) (hnm : ρ 7 m0 = nm) (hlm : Am + nm ≤ 2048) (hmp : nv (ρ 4) Am nm ≠ 0) : Rt l D ad yX6_power (Cond.code yX6_power cX6_power 4 none :: tb) 4 200 [.ref (ad 0), vi (j : Int)] ρ (fun v ρ' => v = none ∧ POP ρ ρ' (nv (ρ 4) Aa na ^ (nv (ρ 4) Ab nb).toNat % nv (ρ 4) Am nm)) := by
  refine ct_of (by decide) rfl (Nat.le_of_ble_eq_true rfl) ?_
  intro p e s m below meth c C
  change X _ _ _ _ _ _ _ _ _ _ _ _ _ _ _ _ [(0, .ref (ad 0)), (1, vi (j : Int))] _
  refine x_aload_n C dX6_power_0 rfl rfl ?_
  refine x_aload_n C dX6_power_1 rfl rfl ?_
  refine x_get C (Cn := RX6) (T := TX6) (N := 33) (ci := 6) 14 dX6_power_2 m_w_6 m_f_RX6_41 rfl (by decide) rfl rfl ?_
  refine x_iload_n C dX6_power_5 rfl rfl ?_
  refine x_iald C dX6_power_6 rfl (by omega) (by omega) ?_
  rw [Int.toNat_natCast, ea]
  refine x_callV C (ci := 6) (nn := 1) (r_loadU ρ hL a Aa na hab.1 hAa hna hla) g_RX6_203 rfl (by decide +kernel) ⟨by first | decide | omega, by first | decide | omega⟩ rfl rfl rfl rfl rfl (Nat.le_of_ble_eq_true rfl) dX6_power_7 (fun v h1 hp => ?_)
  obtain ⟨ρ1, rfl, rfl, ru, hru, rfl⟩ := hp
  obtain ⟨hU, eU⟩ := sg_nrm (f := ρ 24) hL hla hru
  have hru1 := hru.1
  refine x_aload_n C dX6_power_10 rfl rfl ?_
  refine x_aload_n C dX6_power_11 rfl rfl ?_
  refine x_get C (Cn := RX6) (T := TX6) (N := 33) (ci := 6) 16 dX6_power_12 m_w_6 m_f_RX6_47 rfl (by decide) rfl rfl ?_
  refine x_iload_n C dX6_power_15 rfl rfl ?_
  refine x_iald C dX6_power_16 rfl (by omega) (by omega) ?_
  rw [Int.toNat_natCast, upr_n (by decide), up_n (by decide), em]
  refine x_callV C (ci := 6) (nn := 1) (r_loadV _ (hL.row (by rw [upr_n (by decide), up_n (by decide)])) m0 Am nm hab.2.2 (by rw [upr_n (by decide), up_n (by decide)]; exact hAm) (by rw [upr_n (by decide), up_n (by decide)]; exact hnm) hlm) g_RX6_216 rfl (by decide +kernel) ⟨by first | decide | omega, by first | decide | omega⟩ rfl rfl rfl rfl rfl (Nat.le_of_ble_eq_true rfl) dX6_power_17 (fun v h1 hp => ?_)
  obtain ⟨ρ1, rfl, rfl, rv, hrv, e1⟩ := hp
  rw [upr_n (show 4 ≠ 24 by decide), up_n (show 4 ≠ 0 by decide)] at hrv
  obtain ⟨hV, eV⟩ := sg_nrm (f := ρ 25) hL hlm hrv
  have hrv1 := hrv.1
  have f24 : ρ1 24 = mvF (ρ 24) (fun k => ρ 4 (Aa + k)) ru := by rw [e1, upr_n (by decide), up_n (by decide), upr_s]
  have f25 : ρ1 25 = mvF (ρ 25) (fun k => ρ 4 (Am + k)) rv := by rw [e1, upr_s, upr_n (show 25 ≠ 24 by decide), up_n (show 25 ≠ 0 by decide), upr_n (show 4 ≠ 24 by decide), up_n (show 4 ≠ 0 by decide)]
  have f29 : ρ1 0 29 = ru := by rw [e1, upr_n (by decide), up_s, zup_n (by decide), upr_n (by decide), up_s, zup_s]
  have f30 : ρ1 0 30 = rv := by rw [e1, upr_n (by decide), up_s, zup_s]
  have f0 : ∀ k, k ≠ 29 → k ≠ 30 → ρ1 0 k = ρ 0 k := by
    intro k h29 h30; rw [e1, upr_n (by decide), up_s, zup_n h30, upr_n (by decide), up_s, zup_n h29]
  have fr : ∀ q, q ≠ 0 → q ≠ 24 → q ≠ 25 → ρ1 q = ρ q := by
    intro q q0 q24 q25; rw [e1, upr_n q25, up_n q0, upr_n q24, up_n q0]
  rw [← f24] at hU eU
  rw [← f25] at hV eV
  clear e1
  have hvp : 0 < rv := by
    rcases Nat.eq_zero_or_pos rv with c | c
    · rw [c, nv_0] at eV; exact absurd eV.symm hmp
    · exact c
  refine x_aload_n C dX6_power_20 rfl rfl ?_
  refine x_callV C (ci := 6) (nn := 0) (r_divide ρ1 ru rv f29 f30 (by omega) (by omega) hU hV) g_RX6_219 rfl (by decide +kernel) ⟨by first | decide | omega, by first | decide | omega⟩ rfl rfl rfl rfl rfl (Nat.le_of_ble_eq_true rfl) dX6_power_21 (fun v h1 hp => ?_)
  obtain ⟨ρ2, rfl, rfl, hD⟩ := hp
  obtain ⟨xn, g1, g2, g3, g4, g5, g6, g7⟩ := hD.rest hU hV hvp f29
  rw [eU, eV] at g7
  refine x_aload_n C dX6_power_24 rfl rfl ?_
  refine x_aload_n C dX6_power_25 rfl rfl ?_
  refine x_get C (Cn := RX6) (T := TX6) (N := 33) (ci := 6) 29 dX6_power_26 m_w_6 m_f_RX6_179 rfl (by decide) rfl rfl ?_
  rw [g2]
  refine r_put C 31 (by decide) (by decide) dX6_power_29 m_f_RX6_197 rfl (by decide +kernel) ?_
  refine x_iconst C dX6_power_32 ?_
  refine x_istore_n C (lv' := [(2, _), (0, _), (1, _)]) dX6_power_33 rfl (by decide) rfl ?_
  refine rp_powX C (up ρ2 0 31 (xn : Int)) xn j (by omega) (by rw [up_s, zup_n (by decide)]; exact g2) ?_ (xn + 1) 0 (by omega) (by omega) _ (mv_0 _ _ _).symm
  intro lv elv
  subst elv
  obtain ⟨ρ3, e3⟩ : ∃ ρ3, ρ3 = upr (up ρ2 0 31 (xn : Int)) 27 (mvF (up ρ2 0 31 (xn : Int) 27) (up ρ2 0 31 (xn : Int) 24) xn) := ⟨_, rfl⟩
  rw [← e3]
  have h27 : ∀ i, i < xn → ρ3 27 i = ρ2 24 i := fun i hi => by rw [e3, upr_s, up_n (show 24 ≠ 0 by decide)]; unfold mvF; rw [if_pos hi]
  have h0 : ρ3 0 = zup (ρ2 0) 31 (xn : Int) := by rw [e3, upr_n (by decide), up_s]
  have hr3 : ∀ q, q ≠ 0 → q ≠ 27 → ρ3 q = ρ2 q := fun q q0 q27 => by rw [e3, upr_n q27, up_n q0]
  clear e3
  refine x_aload_n C dX6_power_60 rfl rfl ?_
  refine x_iconst C dX6_power_61 ?_
  refine r_put C 32 (by decide) (by decide) dX6_power_62 m_f_RX6_200 rfl (by decide +kernel) ?_
  refine x_aload_n C dX6_power_65 rfl rfl ?_
  refine x_get C (Cn := RX6) (T := TX6) (N := 33) (ci := 6) 28 dX6_power_66 m_w_6 m_f_RX6_78 rfl (by decide) rfl rfl ?_
  refine x_iconst C dX6_power_69 ?_
  refine x_iconst C dX6_power_70 ?_
  refine r_ast C dX6_power_71 (fun _ => rfl) (by omega) (by omega) ?_
  rw [show ((0 : Int)).toNat = 0 from rfl]
  obtain ⟨ρ4, e4⟩ : ∃ ρ4, ρ4 = up (up ρ3 0 32 1) 28 0 1 := ⟨_, rfl⟩
  rw [← e4]
  have k0 : ρ4 0 = zup (zup (ρ2 0) 31 (xn : Int)) 32 1 := by rw [e4, up_n (by decide), up_s, h0]
  have k28 : ρ4 28 0 = 1 := by rw [e4, up_s, zup_s]
  have kr : ∀ q, q ≠ 0 → q ≠ 27 → q ≠ 28 → ρ4 q = ρ2 q := fun q q0 q27 q28 => by rw [e4, up_n q28, up_n q0, hr3 q q0 q27]
  have k27 : ρ4 27 = ρ3 27 := by rw [e4, up_n (by decide), up_n (by decide)]
  have k25 : ρ4 25 = ρ2 25 := kr 25 (by decide) (by decide) (by decide)
  have k30 : ρ4 0 30 = rv := by rw [k0, zup_n (by decide), zup_n (by decide), g3 30 (by decide)]; exact f30
  have hV4 : NRM (ρ4 25) rv := by rw [k25]; exact hV.ext g5
  have eV4 : nv (ρ4 25) 0 rv = nv (ρ 4) Am nm := by rw [← eV, k25]; exact nv_ext (fun i hi => g5 _ (by omega))
  have kk : ∀ q, q ≠ 0 → q ≠ 24 → q ≠ 25 → q ≠ 26 → q ≠ 27 → q ≠ 28 → ρ4 q = ρ q := fun q q0 q24 q25 q26 q27 q28 => by rw [kr q q0 q27 q28, g4 q q0 q24 q25 q26, fr q q0 q24 q25]
  have k4 : ρ4 4 = ρ 4 := kk 4 (by decide) (by decide) (by decide) (by decide) (by decide) (by decide)
  have hv0 := hV4.1 0 hvp
  have hVp4 := hV4.pos hvp
  clear e4
  have hend : ∀ (r1 : Nat) (ρ5 : St), PWI ρ4 ρ5 rv r1 (nv (ρ 4) Aa na ^ (nv (ρ 4) Ab nb).toNat % nv (ρ4 25) 0 rv) → POP ρ ρ5 (nv (ρ 4) Aa na ^ (nv (ρ 4) Ab nb).toNat % nv (ρ 4) Am nm) := by
    intro r1 ρ5 h
    obtain ⟨p1, p2, p3, p4, p5, p6, p7⟩ := h
    refine ⟨r1, by omega, p1, fun k k29 k30 k31 k32 => by rw [p2 k k29 k32, k0, zup_n k32, zup_n k31, g3 k k29, f0 k k29 k30], fun q q0 q24 q25 q26 q27 q28 => by rw [p3 q q0 q24 q25 q26 q28, kk q q0 q24 q25 q26 q27 q28], p6, by rw [p7, eV4]⟩
  refine x_aload_n C dX6_power_72 rfl rfl ?_
  refine x_get C (Cn := RX6) (T := TX6) (N := 33) (ci := 6) 30 dX6_power_73 m_w_6 m_f_RX6_182 rfl (by decide) rfl rfl ?_
  rw [k30]
  refine x_iconst C dX6_power_76 ?_
  refine x_icmp_ne (tgt := 95) C dX6_power_77 (by decide) (by omega) (by omega) (fun c_77 => ?_) (fun c_77 => ?_)
  · have hP0 : PWI ρ4 ρ4 rv 1 (1 % nv (ρ4 25) 0 rv) := ⟨by rw [k0, zup_s]; rfl, fun _ _ _ => rfl, fun _ _ _ _ _ _ => rfl, fun _ _ => rfl, hvp, ⟨fun i hi => by rw [show i = 0 by omega, k28]; decide, fun _ => by rw [k28]; decide⟩, by
      rw [nv_1, k28]
      refine (Int.emod_eq_of_lt (by decide) ?_).symm
      have hq := hV4.2 hvp
      have e := nv_s (ρ4 25) 0 (rv - 1)
      rw [show rv - 1 + 1 = rv by omega, Nat.zero_add] at e
      have gg := nv_ge (f := ρ4 25) (a := 0) (n := rv - 1) (lim0 (fun i hi => hV4.1 i (by omega)))
      have bb := hV4.1 (rv - 1) (by omega)
      have pp : (2147483648 : Int) ≤ 2147483648 ^ (rv - 1) := by
        obtain ⟨d, hd⟩ : ∃ d, rv - 1 = d + 1 := ⟨rv - 2, by omega⟩
        rw [hd, bp_s]
        have : (0 : Int) < 2147483648 ^ d := Int.pow_pos (by decide)
        omega
      have mm := Int.mul_le_mul_of_nonneg_right (show 1 ≤ ρ4 25 (rv - 1) by omega) (show (0 : Int) ≤ 2147483648 ^ (rv - 1) by omega)
      omega⟩
    obtain ⟨ρ5, e5⟩ : ∃ ρ5, ρ5 = ρ4 := ⟨_, rfl⟩
    have hP0 : PWI ρ4 ρ5 rv 1 (1 % nv (ρ4 25) 0 rv) := by rw [e5]; exact hP0
    rw [← e5]
    clear e5
    obtain ⟨r0, hP0⟩ : ∃ r0, PWI ρ4 ρ5 rv r0 (1 % nv (ρ4 25) 0 rv) := ⟨_, hP0⟩
    refine x_aload_n C dX6_power_95 rfl rfl ?_
    refine x_get C (Cn := RX6) (T := TX6) (N := 33) (ci := 6) 15 dX6_power_96 m_w_6 m_f_RX6_44 rfl (by decide) rfl rfl ?_
    refine x_iload_n C dX6_power_99 rfl rfl ?_
    refine x_iald C dX6_power_100 rfl (by omega) (by omega) ?_
    rw [Int.toNat_natCast, hP0.2.2.1 15 (by decide) (by decide) (by decide) (by decide) (by decide), kk 15 (by decide) (by decide) (by decide) (by decide) (by decide) (by decide), eb]
    refine x_istore_n C (lv' := [(2, _), (0, _), (1, _)]) dX6_power_101 rfl (by decide) rfl ?_
    refine x_bipush C (z := 31) dX6_power_102 (by decide) ?_
    refine x_aload_n C dX6_power_104 rfl rfl ?_
    refine x_iload_n C dX6_power_105 rfl rfl ?_
    refine x_callV C (ci := 6) (nn := 1) (r_length ρ5 (hL.row (by rw [hP0.2.2.1 4 (by decide) (by decide) (by decide) (by decide) (by decide), k4])) b Ab nb hab.2.1 (by rw [hP0.2.2.1 8 (by decide) (by decide) (by decide) (by decide) (by decide), kk 8 (by decide) (by decide) (by decide) (by decide) (by decide) (by decide)]; exact hAb) (by rw [hP0.2.2.1 7 (by decide) (by decide) (by decide) (by decide) (by decide), kk 7 (by decide) (by decide) (by decide) (by decide) (by decide) (by decide)]; exact hnb) hlb) g_RX6_146 rfl (by decide +kernel) ⟨by first | decide | omega, by first | decide | omega⟩ rfl rfl rfl rfl rfl (Nat.le_of_ble_eq_true rfl) dX6_power_106 (fun v h1 hp => ?_)
    obtain ⟨ρ6, rfl, rfl, lb0, rfl, hlb0⟩ := hp
    rw [hP0.2.2.1 4 (by decide) (by decide) (by decide) (by decide) (by decide), k4] at hlb0
    have hlb1 := hlb0.1
    have eE := nv_top hlb0.1 hlb0.2.1
    refine x_imul C dX6_power_109 ?_
    refine x_iconst C dX6_power_110 ?_
    refine x_isub C dX6_power_111 ?_
    refine x_istore_n C (lv' := [(3, _), (2, _), (0, _), (1, _)]) dX6_power_112 rfl (by decide) rfl ?_
    have hE0 : (nv (ρ 4) Ab nb).toNat / 2 ^ (31 * lb0) = 0 := by
      apply Nat.div_eq_of_lt
      have h1 := nv_lt (f := ρ 4) (a := Ab) (n := lb0) (fun k hk => hL _ (by omega))
      have h2 := nv_ge (f := ρ 4) (a := Ab) (n := lb0) (fun k hk => hL _ (by omega))
      rw [B31] at h1
      rw [eE]
      omega
    refine rp_pow C ⟨by decide, by decide⟩ ρ4 (hL.row k4) j b Ab lb0 rv xn hab.2.1 (by rw [kk 8 (by decide) (by decide) (by decide) (by decide) (by decide) (by decide)]; exact hAb) (by omega) (by omega) g1 k30 (by rw [k0, zup_n (by decide), zup_s]) hV4 (by rw [k27]; exact g6.ext h27) (nv (ρ 4) Aa na) ?_ (nv (ρ 4) Ab nb).toNat (by rw [k4, eE]) ?_ (31 * lb0 + 1) (31 * lb0) (by omega) (by omega) _ (by omega) r0 ρ5 (by rw [hE0, Int.pow_zero]; exact hP0)
    · rw [k27, eV4, ← g7]; exact nv_ext (fun i hi => h27 _ (by omega))
    · intro ρ7 r1 lv hP
      exact x_vret C dX6_power_183 ⟨_, rfl, rfl, hend r1 ρ7 hP⟩
  · refine x_aload_n C dX6_power_80 rfl rfl ?_
    refine x_get C (Cn := RX6) (T := TX6) (N := 33) (ci := 6) 25 dX6_power_81 m_w_6 m_f_RX6_69 rfl (by decide) rfl rfl ?_
    refine x_iconst C dX6_power_84 ?_
    refine x_iald C dX6_power_85 rfl (by omega) (by omega) ?_
    rw [show ((0 : Int)).toNat = 0 from rfl]
    refine x_iconst C dX6_power_86 ?_
    refine x_icmp_ne (tgt := 95) C dX6_power_87 (by decide) (by omega) (by omega) (fun c_87 => ?_) (fun c_87 => ?_)
    · have hP0 : PWI ρ4 ρ4 rv 1 (1 % nv (ρ4 25) 0 rv) := ⟨by rw [k0, zup_s]; rfl, fun _ _ _ => rfl, fun _ _ _ _ _ _ => rfl, fun _ _ => rfl, hvp, ⟨fun i hi => by rw [show i = 0 by omega, k28]; decide, fun _ => by rw [k28]; decide⟩, by
        rw [nv_1, k28]
        refine (Int.emod_eq_of_lt (by decide) ?_).symm
        rw [show rv = 1 by omega, nv_1] at hVp4 ⊢
        omega⟩
      obtain ⟨ρ5, e5⟩ : ∃ ρ5, ρ5 = ρ4 := ⟨_, rfl⟩
      have hP0 : PWI ρ4 ρ5 rv 1 (1 % nv (ρ4 25) 0 rv) := by rw [e5]; exact hP0
      rw [← e5]
      clear e5
      obtain ⟨r0, hP0⟩ : ∃ r0, PWI ρ4 ρ5 rv r0 (1 % nv (ρ4 25) 0 rv) := ⟨_, hP0⟩
      refine x_aload_n C dX6_power_95 rfl rfl ?_
      refine x_get C (Cn := RX6) (T := TX6) (N := 33) (ci := 6) 15 dX6_power_96 m_w_6 m_f_RX6_44 rfl (by decide) rfl rfl ?_
      refine x_iload_n C dX6_power_99 rfl rfl ?_
      refine x_iald C dX6_power_100 rfl (by omega) (by omega) ?_
      rw [Int.toNat_natCast, hP0.2.2.1 15 (by decide) (by decide) (by decide) (by decide) (by decide), kk 15 (by decide) (by decide) (by decide) (by decide) (by decide) (by decide), eb]
      refine x_istore_n C (lv' := [(2, _), (0, _), (1, _)]) dX6_power_101 rfl (by decide) rfl ?_
      refine x_bipush C (z := 31) dX6_power_102 (by decide) ?_
      refine x_aload_n C dX6_power_104 rfl rfl ?_
      refine x_iload_n C dX6_power_105 rfl rfl ?_
      refine x_callV C (ci := 6) (nn := 1) (r_length ρ5 (hL.row (by rw [hP0.2.2.1 4 (by decide) (by decide) (by decide) (by decide) (by decide), k4])) b Ab nb hab.2.1 (by rw [hP0.2.2.1 8 (by decide) (by decide) (by decide) (by decide) (by decide), kk 8 (by decide) (by decide) (by decide) (by decide) (by decide) (by decide)]; exact hAb) (by rw [hP0.2.2.1 7 (by decide) (by decide) (by decide) (by decide) (by decide), kk 7 (by decide) (by decide) (by decide) (by decide) (by decide) (by decide)]; exact hnb) hlb) g_RX6_146 rfl (by decide +kernel) ⟨by first | decide | omega, by first | decide | omega⟩ rfl rfl rfl rfl rfl (Nat.le_of_ble_eq_true rfl) dX6_power_106 (fun v h1 hp => ?_)
      obtain ⟨ρ6, rfl, rfl, lb0, rfl, hlb0⟩ := hp
      rw [hP0.2.2.1 4 (by decide) (by decide) (by decide) (by decide) (by decide), k4] at hlb0
      have hlb1 := hlb0.1
      have eE := nv_top hlb0.1 hlb0.2.1
      refine x_imul C dX6_power_109 ?_
      refine x_iconst C dX6_power_110 ?_
      refine x_isub C dX6_power_111 ?_
      refine x_istore_n C (lv' := [(3, _), (2, _), (0, _), (1, _)]) dX6_power_112 rfl (by decide) rfl ?_
      have hE0 : (nv (ρ 4) Ab nb).toNat / 2 ^ (31 * lb0) = 0 := by
        apply Nat.div_eq_of_lt
        have h1 := nv_lt (f := ρ 4) (a := Ab) (n := lb0) (fun k hk => hL _ (by omega))
        have h2 := nv_ge (f := ρ 4) (a := Ab) (n := lb0) (fun k hk => hL _ (by omega))
        rw [B31] at h1
        rw [eE]
        omega
      refine rp_pow C ⟨by decide, by decide⟩ ρ4 (hL.row k4) j b Ab lb0 rv xn hab.2.1 (by rw [kk 8 (by decide) (by decide) (by decide) (by decide) (by decide) (by decide)]; exact hAb) (by omega) (by omega) g1 k30 (by rw [k0, zup_n (by decide), zup_s]) hV4 (by rw [k27]; exact g6.ext h27) (nv (ρ 4) Aa na) ?_ (nv (ρ 4) Ab nb).toNat (by rw [k4, eE]) ?_ (31 * lb0 + 1) (31 * lb0) (by omega) (by omega) _ (by omega) r0 ρ5 (by rw [hE0, Int.pow_zero]; exact hP0)
      · rw [k27, eV4, ← g7]; exact nv_ext (fun i hi => h27 _ (by omega))
      · intro ρ7 r1 lv hP
        exact x_vret C dX6_power_183 ⟨_, rfl, rfl, hend r1 ρ7 hP⟩
    · refine x_aload_n C dX6_power_90 rfl rfl ?_
      refine x_iconst C dX6_power_91 ?_
      refine r_put C 32 (by decide) (by decide) dX6_power_92 m_f_RX6_200 rfl (by decide +kernel) ?_
      have hone : nv (ρ4 25) 0 rv = 1 := by rw [show rv = 1 by omega, nv_1]; omega
      have hP0 : PWI ρ4 (up ρ4 0 32 0) rv 0 (1 % nv (ρ4 25) 0 rv) := ⟨by rw [up_s, zup_s]; rfl, fun k _ k32 => by rw [up_s, zup_n k32], fun q q0 _ _ _ _ => by rw [up_n q0], fun _ _ => by rw [up_n (by decide)], by omega, ⟨fun i hi => by omega, fun q => by omega⟩, by rw [nv_0, hone]; rfl⟩
      obtain ⟨ρ5, e5⟩ : ∃ ρ5, ρ5 = up ρ4 0 32 0 := ⟨_, rfl⟩
      rw [← e5] at hP0 ⊢
      clear e5
      obtain ⟨r0, hP0⟩ : ∃ r0, PWI ρ4 ρ5 rv r0 (1 % nv (ρ4 25) 0 rv) := ⟨_, hP0⟩
      refine x_aload_n C dX6_power_95 rfl rfl ?_
      refine x_get C (Cn := RX6) (T := TX6) (N := 33) (ci := 6) 15 dX6_power_96 m_w_6 m_f_RX6_44 rfl (by decide) rfl rfl ?_
      refine x_iload_n C dX6_power_99 rfl rfl ?_
      refine x_iald C dX6_power_100 rfl (by omega) (by omega) ?_
      rw [Int.toNat_natCast, hP0.2.2.1 15 (by decide) (by decide) (by decide) (by decide) (by decide), kk 15 (by decide) (by decide) (by decide) (by decide) (by decide) (by decide), eb]
      refine x_istore_n C (lv' := [(2, _), (0, _), (1, _)]) dX6_power_101 rfl (by decide) rfl ?_
      refine x_bipush C (z := 31) dX6_power_102 (by decide) ?_
      refine x_aload_n C dX6_power_104 rfl rfl ?_
      refine x_iload_n C dX6_power_105 rfl rfl ?_
      refine x_callV C (ci := 6) (nn := 1) (r_length ρ5 (hL.row (by rw [hP0.2.2.1 4 (by decide) (by decide) (by decide) (by decide) (by decide), k4])) b Ab nb hab.2.1 (by rw [hP0.2.2.1 8 (by decide) (by decide) (by decide) (by decide) (by decide), kk 8 (by decide) (by decide) (by decide) (by decide) (by decide) (by decide)]; exact hAb) (by rw [hP0.2.2.1 7 (by decide) (by decide) (by decide) (by decide) (by decide), kk 7 (by decide) (by decide) (by decide) (by decide) (by decide) (by decide)]; exact hnb) hlb) g_RX6_146 rfl (by decide +kernel) ⟨by first | decide | omega, by first | decide | omega⟩ rfl rfl rfl rfl rfl (Nat.le_of_ble_eq_true rfl) dX6_power_106 (fun v h1 hp => ?_)
      obtain ⟨ρ6, rfl, rfl, lb0, rfl, hlb0⟩ := hp
      rw [hP0.2.2.1 4 (by decide) (by decide) (by decide) (by decide) (by decide), k4] at hlb0
      have hlb1 := hlb0.1
      have eE := nv_top hlb0.1 hlb0.2.1
      refine x_imul C dX6_power_109 ?_
      refine x_iconst C dX6_power_110 ?_
      refine x_isub C dX6_power_111 ?_
      refine x_istore_n C (lv' := [(3, _), (2, _), (0, _), (1, _)]) dX6_power_112 rfl (by decide) rfl ?_
      have hE0 : (nv (ρ 4) Ab nb).toNat / 2 ^ (31 * lb0) = 0 := by
        apply Nat.div_eq_of_lt
        have h1 := nv_lt (f := ρ 4) (a := Ab) (n := lb0) (fun k hk => hL _ (by omega))
        have h2 := nv_ge (f := ρ 4) (a := Ab) (n := lb0) (fun k hk => hL _ (by omega))
        rw [B31] at h1
        rw [eE]
        omega
      refine rp_pow C ⟨by decide, by decide⟩ ρ4 (hL.row k4) j b Ab lb0 rv xn hab.2.1 (by rw [kk 8 (by decide) (by decide) (by decide) (by decide) (by decide) (by decide)]; exact hAb) (by omega) (by omega) g1 k30 (by rw [k0, zup_n (by decide), zup_s]) hV4 (by rw [k27]; exact g6.ext h27) (nv (ρ 4) Aa na) ?_ (nv (ρ 4) Ab nb).toNat (by rw [k4, eE]) ?_ (31 * lb0 + 1) (31 * lb0) (by omega) (by omega) _ (by omega) r0 ρ5 (by rw [hE0, Int.pow_zero]; exact hP0)
      · rw [k27, eV4, ← g7]; exact nv_ext (fun i hi => h27 _ (by omega))
      · intro ρ7 r1 lv hP
        exact x_vret C dX6_power_183 ⟨_, rfl, rfl, hend r1 ρ7 hP⟩
