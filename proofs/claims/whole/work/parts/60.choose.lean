/-! CHOOSING THE DIVISOR -/
def dvM (f : Nat → Int) (a r s : Nat) : Int := (lb f a r 0 * 2147483648 + lb f a r 1) * 2 ^ s + lb f a r 2 / 2 ^ (31 - s)
def DVS (g : Nat × Nat × Nat × Nat) (σ : St) (a r : Nat) : Prop := σ 5 1 = a ∧ σ 5 2 = r ∧ 0 < r ∧ a + r ≤ g.2.1 ∧ ∃ s : Nat, s ≤ 30 ∧ σ 5 3 = s ∧ 1073741824 ≤ lb (σ 2) a r 0 * 2 ^ s ∧ lb (σ 2) a r 0 * 2 ^ s < 2147483648 ∧ σ 5 4 = dvM (σ 2) a r s / 2147483648 ∧ σ 5 5 = dvM (σ 2) a r s % 2147483648
theorem lb_ext {f f' : Nat → Int} {a r k : Nat} (h : ∀ q, a ≤ q → q < a + r → f' q = f q) : lb f' a r k = lb f a r k := by
  unfold lb
  by_cases c : k < r
  · rw [if_pos c, if_pos c, h _ (by omega) (by omega)]
  · rw [if_neg c, if_neg c]
theorem DVS.keep {g : Nat × Nat × Nat × Nat} {σ σ' : St} {a r : Nat} (h : DVS g σ a r) (h5 : σ' 5 = σ 5) (h2 : ∀ q, a ≤ q → q < a + r → σ' 2 q = σ 2 q) : DVS g σ' a r := by
  unfold DVS dvM at *
  rw [h5, lb_ext h2, lb_ext h2, lb_ext h2]
  exact h
theorem LM.row {g : Nat × Nat × Nat × Nat} {σ σ' : St} (h : LM g σ) (h2 : σ' 2 = σ 2) : LM g σ' := fun i hi => by rw [h2]; exact h i hi
/-- two limbs and the bits of a third, moved up: no overflow -/
theorem up_in {t n2 d : Int} {s : Nat} (hs : s ≤ 30) (ht : 0 ≤ t) (hts : t * 2 ^ s < 2147483648) (h2 : 0 ≤ n2 ∧ n2 < 2147483648) (hd : 0 ≤ d ∧ d < 2 ^ s) : 0 ≤ (t * 2147483648 + n2) * 2 ^ s + d ∧ (t * 2147483648 + n2) * 2 ^ s + d < 4611686018427387904 ∧ t * 2 ^ s * 2147483648 ≤ (t * 2147483648 + n2) * 2 ^ s + d := by
  have hq := zp_pos s
  have e31 := p31 (show s ≤ 31 by omega)
  have h1 : 0 ≤ (t * 2147483648 + n2) * 2 ^ s := Int.mul_nonneg (by omega) (by omega)
  have h3 : (t + 1) * 2 ^ s ≤ 2147483648 := by
    rw [← e31]
    have : t < 2 ^ (31 - s) := Int.lt_of_mul_lt_mul_right (by rw [e31]; exact hts) (by omega)
    exact Int.mul_le_mul_of_nonneg_right (by omega) (by omega)
  have h4 : (t * 2147483648 + n2 + 1) * 2 ^ s ≤ ((t + 1) * 2147483648) * 2 ^ s := Int.mul_le_mul_of_nonneg_right (by omega) (by omega)
  rw [mcP, Int.add_mul (t * 2147483648 + n2)] at h4
  have h5 : t * 2 ^ s * 2147483648 ≤ (t * 2147483648 + n2) * 2 ^ s := by
    rw [Int.add_mul, mcP]; have := Int.mul_nonneg h2.1 (show (0 : Int) ≤ 2 ^ s by omega); omega
  omega
set_option maxHeartbeats 4000000 in
set_option maxRecDepth 100000 in
theorem lp_chE {p : Program} {l : Launch} {e : Env} {R : Room} {s : State} {m : MethodId} {args : Array Value} {below : List Frame} {meth : Method} {c : Code} {D : va_G} {ad : Nat → Nat} {g : Nat × Nat × Nat × Nat} {Q : State → Prop} (C : Fx p s m args meth c D ad cX4_chooseDivisor 8 (some .boolean) yX4_chooseDivisor.cls tb) (hg : 3 ≤ g.1 ∧ g.1 ≤ 11 ∧ 8 ≤ g.2.1 ∧ g.2.1 ≤ 2048 ∧ 1 ≤ g.2.2.1 ∧ g.2.2.1 ≤ 24 ∧ 1 ≤ g.2.2.2 ∧ g.2.2.2 ≤ 12) (σ : St) (a n0 r : Nat) (hr : 0 < r) (har : a + r ≤ g.2.1) (hL : LM g σ) (T n2 n3 : Int) (hT : T = lb (σ 2) a r 0) (hn2 : n2 = lb (σ 2) a r 1) (hn3 : n3 = lb (σ 2) a r 2) (K : ∀ (σ' : St) lv, DVS g σ' a r → (∀ q, q ≠ 5 → σ' q = σ q) → X p l e R s m args below meth c D ad 8 Q (kc D ad g σ') 179 lv [vi 1]) (s0 : Nat) (hs0 : s0 ≤ 30) (σ1 : St) (h51 : σ1 5 1 = a) (h52 : σ1 5 2 = r) (h53 : σ1 5 3 = s0) (hrow : ∀ q, q ≠ 5 → σ1 q = σ q) (hlo : 1073741824 ≤ T * 2 ^ s0) (hhi : T * 2 ^ s0 < 2147483648) : X p l e R s m args below meth c D ad 8 Q (kc D ad g σ1) 131 [(5, vi n3), (4, vi n2), (3, vi T), (0, .ref (ad 5)), (1, vi (a : Int)), (2, vi (n0 : Int))] [] := by
  have hlm := hL.lim har
  have rT := lb_in hlm 0
  have r2 := lb_in hlm 1
  have r3 := lb_in hlm 2
  rw [← hT] at rT
  rw [← hn2] at r2
  rw [← hn3] at r3
  refine x_iload_n C dX4_chooseDivisor_131 rfl rfl ?_
  refine x_i2l C dX4_chooseDivisor_132 (by omega) ?_
  refine x_bipush C (z := 31) dX4_chooseDivisor_133 (by decide) ?_
  refine x_lshl C dX4_chooseDivisor_135 (by omega) ?_
  rw [show (31 : Int).toNat = 31 from rfl, show (2 : Int) ^ 31 = 2147483648 from by decide]
  refine x_iload C dX4_chooseDivisor_136 rfl ?_
  refine x_i2l C dX4_chooseDivisor_138 (by omega) ?_
  refine x_lor C (z := (T * 2147483648 + n2)) dX4_chooseDivisor_139 (lI_or 31 (by decide) (c := T) (by rw [show (2 : Int) ^ 31 = 2147483648 from by decide]) rT.1 (by rw [show (2 : Int) ^ 31 = 2147483648 from by decide]; exact r2) (by omega)) ?_
  refine x_aload_n C dX4_chooseDivisor_140 rfl rfl ?_
  refine x_get C (Cn := RX4) (T := TX4) (N := 6) (ci := 4) 3 dX4_chooseDivisor_141 m_w_4 m_f_RX4_90 rfl (by decide) rfl rfl ?_
  rw [h53]
  refine x_lshl C dX4_chooseDivisor_144 (by omega) ?_
  rw [Int.toNat_natCast]
  refine x_iload C dX4_chooseDivisor_145 rfl ?_
  refine x_bipush C (z := 31) dX4_chooseDivisor_147 (by decide) ?_
  refine x_aload_n C dX4_chooseDivisor_149 rfl rfl ?_
  refine x_get C (Cn := RX4) (T := TX4) (N := 6) (ci := 4) 3 dX4_chooseDivisor_150 m_w_4 m_f_RX4_90 rfl (by decide) rfl rfl ?_
  rw [h53]
  refine x_isub C dX4_chooseDivisor_153 ?_
  refine x_ishr C dX4_chooseDivisor_154 (by omega) (by omega) ?_
  rw [show ((31 : Int) - (s0 : Int)).toNat = 31 - s0 by omega]
  obtain ⟨m1, m2, m3, m4, m5⟩ := mvup (s := s0) (by omega) r3
  have hz30 : (2 : Int) ^ s0 ≤ 2 ^ 30 := zp_le hs0
  obtain ⟨u1, u2, u3⟩ := up_in hs0 rT.1 hhi r2 ⟨m2, m3⟩
  refine x_i2l C dX4_chooseDivisor_155 (by omega) ?_
  refine x_lor C (z := ((T * 2147483648 + n2) * 2 ^ s0 + n3 / 2 ^ (31 - s0))) dX4_chooseDivisor_156 (lI_or s0 (by omega) rfl (by omega) ⟨m2, m3⟩ (by omega)) ?_
  refine x_lstore C (lv' := [(6, _), (5, _), (4, _), (3, _), (0, _), (1, _), (2, _)]) dX4_chooseDivisor_157 (by decide) rfl ?_
  refine x_aload_n C dX4_chooseDivisor_159 rfl rfl ?_
  refine x_lload C dX4_chooseDivisor_160 rfl ?_
  refine x_bipush C (z := 31) dX4_chooseDivisor_162 (by decide) ?_
  refine x_lshr C dX4_chooseDivisor_164 (by omega) (by omega) ?_
  rw [show (31 : Int).toNat = 31 from rfl, show (2 : Int) ^ 31 = 2147483648 from by decide]
  refine k_putSl C (Cn := RX4) (T := TX4) (N := 6) (ci := 4) (ty := .long) 4 dX4_chooseDivisor_165 m_w_4 m_f_RX4_93 rfl (by decide) tyX4 tyX4_ok nmX4 rfl (by decide +kernel) rfl rfl rfl (Nat.le_of_ble_eq_true rfl) rfl ?_
  refine x_aload_n C dX4_chooseDivisor_168 rfl rfl ?_
  refine x_lload C dX4_chooseDivisor_169 rfl ?_
  refine x_ldc2 C (z := 2147483647) dX4_chooseDivisor_171 (C.2.2.2.2.1 _ m_k_RX4_15) (by decide) ?_
  refine x_land C (z := (((T * 2147483648 + n2) * 2 ^ s0 + n3 / 2 ^ (31 - s0)) % 2147483648)) dX4_chooseDivisor_174 (lI_mask _) ?_
  refine k_putSl C (Cn := RX4) (T := TX4) (N := 6) (ci := 4) (ty := .long) 5 dX4_chooseDivisor_175 m_w_4 m_f_RX4_97 rfl (by decide) tyX4 tyX4_ok nmX4 rfl (by decide +kernel) rfl rfl rfl (Nat.le_of_ble_eq_true rfl) rfl ?_
  refine x_iconst C dX4_chooseDivisor_178 ?_
  refine K _ _ ⟨?_, ?_, hr, har, s0, hs0, ?_, ?_, ?_, ?_, ?_⟩ (fun q hq => by rw [up_n hq, up_n hq]; exact hrow q hq)
  · rw [up_s, zup_n (by decide), up_s, zup_n (by decide)]; exact h51
  · rw [up_s, zup_n (by decide), up_s, zup_n (by decide)]; exact h52
  · rw [up_s, zup_n (by decide), up_s, zup_n (by decide)]; exact h53
  · rw [up_n (by decide), up_n (by decide), hrow 2 (by decide), ← hT]; exact hlo
  · rw [up_n (by decide), up_n (by decide), hrow 2 (by decide), ← hT]; exact hhi
  · rw [up_s, zup_n (by decide), up_s, zup_s, up_n (show 2 ≠ 5 by decide), up_n (show 2 ≠ 5 by decide), hrow 2 (by decide)]; unfold dvM; rw [← hT, ← hn2, ← hn3]
  · rw [up_s, zup_s, up_n (show 2 ≠ 5 by decide), up_n (show 2 ≠ 5 by decide), hrow 2 (by decide)]; unfold dvM; rw [← hT, ← hn2, ← hn3]
set_option maxHeartbeats 4000000 in
set_option maxRecDepth 100000 in
theorem lp_chD {p : Program} {l : Launch} {e : Env} {R : Room} {s : State} {m : MethodId} {args : Array Value} {below : List Frame} {meth : Method} {c : Code} {D : va_G} {ad : Nat → Nat} {g : Nat × Nat × Nat × Nat} {Q : State → Prop} (C : Fx p s m args meth c D ad cX4_chooseDivisor 8 (some .boolean) yX4_chooseDivisor.cls tb) (hg : 3 ≤ g.1 ∧ g.1 ≤ 11 ∧ 8 ≤ g.2.1 ∧ g.2.1 ≤ 2048 ∧ 1 ≤ g.2.2.1 ∧ g.2.2.1 ≤ 24 ∧ 1 ≤ g.2.2.2 ∧ g.2.2.2 ≤ 12) (σ : St) (a n0 r : Nat) (hr : 0 < r) (har : a + r ≤ g.2.1) (hL : LM g σ) (T n2 n3 : Int) (hT : T = lb (σ 2) a r 0) (hn2 : n2 = lb (σ 2) a r 1) (hn3 : n3 = lb (σ 2) a r 2) (K : ∀ (σ' : St) lv, DVS g σ' a r → (∀ q, q ≠ 5 → σ' q = σ q) → X p l e R s m args below meth c D ad 8 Q (kc D ad g σ') 179 lv [vi 1]) (hT0 : T ≠ 0) (n s0 : Nat) (hn : 31 - s0 < n) (hs0 : s0 ≤ 30) (σ1 : St) (h51 : σ1 5 1 = a) (h52 : σ1 5 2 = r) (h53 : σ1 5 3 = s0) (hrow : ∀ q, q ≠ 5 → σ1 q = σ q) (hhi : T * 2 ^ s0 < 2147483648) : X p l e R s m args below meth c D ad 8 Q (kc D ad g σ1) 97 [(5, vi n3), (4, vi n2), (3, vi T), (0, .ref (ad 5)), (1, vi (a : Int)), (2, vi (n0 : Int))] [] := by
  have hlm := hL.lim har
  have rT := lb_in hlm 0
  have r2 := lb_in hlm 1
  have r3 := lb_in hlm 2
  rw [← hT] at rT
  rw [← hn2] at r2
  rw [← hn3] at r3
  induction n generalizing s0 σ1 with
  | zero => omega
  | succ n ih =>
  refine x_aload_n C dX4_chooseDivisor_97 rfl rfl ?_
  refine x_get C (Cn := RX4) (T := TX4) (N := 6) (ci := 4) 3 dX4_chooseDivisor_98 m_w_4 m_f_RX4_90 rfl (by decide) rfl rfl ?_
  rw [h53]
  refine x_bipush C (z := 30) dX4_chooseDivisor_101 (by decide) ?_
  refine x_icmp_ge (tgt := 131) C dX4_chooseDivisor_103 (by decide) (by omega) (by omega) (fun c_103 => ?_) (fun c_103 => ?_)
  · obtain rfl : s0 = 30 := by omega
    exact lp_chE C hg σ a n0 r hr har hL T n2 n3 hT hn2 hn3 K 30 hs0 σ1 h51 h52 h53 hrow (by rw [show (2 : Int) ^ 30 = 1073741824 from by decide]; omega) hhi
  · refine x_iload_n C dX4_chooseDivisor_106 rfl rfl ?_
    refine x_bipush C (z := 30) dX4_chooseDivisor_107 (by decide) ?_
    refine x_aload_n C dX4_chooseDivisor_109 rfl rfl ?_
    refine x_get C (Cn := RX4) (T := TX4) (N := 6) (ci := 4) 3 dX4_chooseDivisor_110 m_w_4 m_f_RX4_90 rfl (by decide) rfl rfl ?_
    rw [h53]
    refine x_isub C dX4_chooseDivisor_113 ?_
    refine x_ishr C dX4_chooseDivisor_114 (by omega) (by omega) ?_
    rw [show ((30 : Int) - (s0 : Int)).toNat = 30 - s0 by omega]
    have hzz := zdiv_le (30 - s0) rT (by omega) (by omega)
    have hp := zp_pos (30 - s0)
    have hq := zp_pos s0
    have e30 : (2 : Int) ^ (30 - s0) * 2 ^ s0 = 1073741824 := by rw [← Int.pow_add, show 30 - s0 + s0 = 30 by omega]; decide
    refine x_if_ne (tgt := 131) C dX4_chooseDivisor_115 (by decide) (by omega) (fun c_115 => ?_) (fun c_115 => ?_)
    · refine lp_chE C hg σ a n0 r hr har hL T n2 n3 hT hn2 hn3 K s0 hs0 σ1 h51 h52 h53 hrow ?_ hhi
      rw [← e30]
      apply Int.mul_le_mul_of_nonneg_right _ (by omega)
      rcases Int.lt_or_le T (2 ^ (30 - s0)) with q | q
      · exact absurd (Int.ediv_eq_zero_of_lt rT.1 q) c_115
      · exact q
    · refine x_aload_n C dX4_chooseDivisor_118 rfl rfl ?_
      refine x_dup C dX4_chooseDivisor_119 rfl ?_
      refine x_get C (Cn := RX4) (T := TX4) (N := 6) (ci := 4) 3 dX4_chooseDivisor_120 m_w_4 m_f_RX4_90 rfl (by decide) rfl rfl ?_
      rw [h53]
      refine x_iconst C dX4_chooseDivisor_123 ?_
      refine x_iadd C dX4_chooseDivisor_124 ?_
      refine k_putS C (Cn := RX4) (T := TX4) (N := 6) (ci := 4) (ty := .int) 3 dX4_chooseDivisor_125 m_w_4 m_f_RX4_90 rfl (by decide) tyX4 tyX4_ok nmX4 rfl (by decide +kernel) rfl rfl rfl (Nat.le_of_ble_eq_true rfl) rfl ?_
      refine x_goto (tgt := 97) C dX4_chooseDivisor_128 (by decide) ?_
      refine ih (s0 + 1) (by omega) (by omega) _ ?_ ?_ ?_ ?_ ?_
      · rw [up_s, zup_n (by decide)]; exact h51
      · rw [up_s, zup_n (by decide)]; exact h52
      · rw [up_s, zup_s]; omega
      · intro q hq; rw [up_n hq]; exact hrow q hq
      · have hlt : T < 2 ^ (30 - s0) := by
          rcases Int.lt_or_le T (2 ^ (30 - s0)) with q | q
          · exact q
          · have := (Int.le_ediv_iff_mul_le (a := 1) (b := T) hp).mpr (by omega)
            omega
        have := Int.mul_lt_mul_of_pos_right hlt hq
        rw [e30] at this
        rw [Int.pow_succ, ← Int.mul_assoc]
        omega
set_option maxHeartbeats 4000000 in
set_option maxRecDepth 100000 in
theorem c_chooseDivisor {l : Launch} {D : va_G} {ad : Nat → Nat} {g : Nat × Nat × Nat × Nat} (hg : 3 ≤ g.1 ∧ g.1 ≤ 11 ∧ 8 ≤ g.2.1 ∧ g.2.1 ≤ 2048 ∧ 1 ≤ g.2.2.1 ∧ g.2.2.1 ≤ 24 ∧ 1 ≤ g.2.2.2 ∧ g.2.2.2 ≤ 12) (σ : St) (hL : LM g σ) (a n0 : Nat) (ha : a + n0 ≤ g.2.1) : Kt l D ad g yX4_chooseDivisor (Cond.code yX4_chooseDivisor cX4_chooseDivisor 8 (some .boolean) :: tb) 1 40 [.ref (ad 5), vi (a : Int), vi (n0 : Int)] σ (fun v σ' => ∃ r : Nat, sgP (σ 2) a n0 r ∧ (∀ q, q ≠ 5 → σ' q = σ q) ∧ ((r = 0 ∧ v = some (vi 0)) ∨ (0 < r ∧ v = some (vi 1) ∧ DVS g σ' a r))) := by
  refine ct_of (by decide) rfl (Nat.le_of_ble_eq_true rfl) ?_
  intro p e s m below meth c C
  change X _ _ _ _ _ _ _ _ _ _ _ _ _ _ _ _ [(0, .ref (ad 5)), (1, vi (a : Int)), (2, vi (n0 : Int))] _
  refine x_aload_n C dX4_chooseDivisor_0 rfl rfl ?_
  refine x_iload_n C dX4_chooseDivisor_1 rfl rfl ?_
  refine k_putS C (Cn := RX4) (T := TX4) (N := 6) (ci := 4) (ty := .int) 1 dX4_chooseDivisor_2 m_w_4 m_f_RX4_53 rfl (by decide) tyX4 tyX4_ok nmX4 rfl (by decide +kernel) rfl rfl rfl (Nat.le_of_ble_eq_true rfl) rfl ?_
  refine x_aload_n C dX4_chooseDivisor_5 rfl rfl ?_
  refine x_aload_n C dX4_chooseDivisor_6 rfl rfl ?_
  refine x_iload_n C dX4_chooseDivisor_7 rfl rfl ?_
  refine x_iload_n C dX4_chooseDivisor_8 rfl rfl ?_
  refine x_callV C (ci := 4) (nn := 2) (c_significant hg _ (hL.row (up_n (by decide))) a n0 ha) g_RX4_87 rfl (by decide +kernel) ⟨by first | decide | omega, by first | decide | omega⟩ rfl rfl rfl rfl rfl (Nat.le_of_ble_eq_true rfl) dX4_chooseDivisor_9 (fun v h1 hp => ?_)
  obtain ⟨σ1, rfl, rfl, r, rfl, hr⟩ := hp
  rw [up_n (show 2 ≠ 5 by decide)] at hr
  refine k_putS C (Cn := RX4) (T := TX4) (N := 6) (ci := 4) (ty := .int) 2 dX4_chooseDivisor_12 m_w_4 m_f_RX4_38 rfl (by decide) tyX4 tyX4_ok nmX4 rfl (by decide +kernel) rfl rfl rfl (Nat.le_of_ble_eq_true rfl) rfl ?_
  obtain ⟨σ2, hσ2⟩ : ∃ σ2, σ2 = up (up σ 5 1 (a : Int)) 5 2 (r : Int) := ⟨_, rfl⟩
  rw [← hσ2]
  have h51 : σ2 5 1 = a := by rw [hσ2]; rfl
  have h52 : σ2 5 2 = r := by rw [hσ2]; rfl
  have hrow : ∀ q, q ≠ 5 → σ2 q = σ q := fun q hq => by rw [hσ2, up_n hq, up_n hq]
  have hL2 : LM g σ2 := hL.row (hrow 2 (by decide))
  have hrn := hr.1
  refine x_aload_n C dX4_chooseDivisor_15 rfl rfl ?_
  refine x_get C (Cn := RX4) (T := TX4) (N := 6) (ci := 4) 2 dX4_chooseDivisor_16 m_w_4 m_f_RX4_38 rfl (by decide) rfl rfl ?_
  rw [h52]
  refine x_if_ne (tgt := 24) C dX4_chooseDivisor_19 (by decide) (by omega) (fun c_19 => ?_) (fun c_19 => ?_)
  · refine x_aload_n C dX4_chooseDivisor_24 rfl rfl ?_
    refine x_get C (Cn := RX4) (T := TX4) (N := 6) (ci := 4) 0 dX4_chooseDivisor_25 m_w_4 m_f_RX4_9 rfl (by decide) rfl rfl ?_
    refine x_iload_n C dX4_chooseDivisor_28 rfl rfl ?_
    refine x_aload_n C dX4_chooseDivisor_29 rfl rfl ?_
    refine x_get C (Cn := RX4) (T := TX4) (N := 6) (ci := 4) 2 dX4_chooseDivisor_30 m_w_4 m_f_RX4_38 rfl (by decide) rfl rfl ?_
    rw [h52]
    refine x_iadd C dX4_chooseDivisor_33 ?_
    refine x_iconst C dX4_chooseDivisor_34 ?_
    refine x_isub C dX4_chooseDivisor_35 ?_
    refine x_iald C dX4_chooseDivisor_36 rfl (by omega) (by omega) ?_
    rw [show ((a : Int) + (r : Int) - 1).toNat = a + (r - 1) by omega]
    refine x_istore_n C (lv' := [(3, _), (0, _), (1, _), (2, _)]) dX4_chooseDivisor_37 rfl (by decide) rfl ?_
    refine x_aload_n C dX4_chooseDivisor_38 rfl rfl ?_
    refine x_get C (Cn := RX4) (T := TX4) (N := 6) (ci := 4) 2 dX4_chooseDivisor_39 m_w_4 m_f_RX4_38 rfl (by decide) rfl rfl ?_
    rw [h52]
    refine x_iconst C dX4_chooseDivisor_42 ?_
    refine x_icmp_le (tgt := 62) C dX4_chooseDivisor_43 (by decide) (by omega) (by omega) (fun c_43 => ?_) (fun c_43 => ?_)
    · refine x_iconst C dX4_chooseDivisor_62 ?_
      refine x_istore C (lv' := [(4, _), (3, _), (0, _), (1, _), (2, _)]) dX4_chooseDivisor_63 (by decide) rfl ?_
      refine x_aload_n C dX4_chooseDivisor_65 rfl rfl ?_
      refine x_get C (Cn := RX4) (T := TX4) (N := 6) (ci := 4) 2 dX4_chooseDivisor_66 m_w_4 m_f_RX4_38 rfl (by decide) rfl rfl ?_
      rw [h52]
      refine x_iconst C dX4_chooseDivisor_69 ?_
      refine x_icmp_le (tgt := 89) C dX4_chooseDivisor_70 (by decide) (by omega) (by omega) (fun c_70 => ?_) (fun c_70 => ?_)
      · refine x_iconst C dX4_chooseDivisor_89 ?_
        refine x_istore C (lv' := [(5, _), (4, _), (3, _), (0, _), (1, _), (2, _)]) dX4_chooseDivisor_90 (by decide) rfl ?_
        refine x_aload_n C dX4_chooseDivisor_92 rfl rfl ?_
        refine x_iconst C dX4_chooseDivisor_93 ?_
        refine k_putS C (Cn := RX4) (T := TX4) (N := 6) (ci := 4) (ty := .int) 3 dX4_chooseDivisor_94 m_w_4 m_f_RX4_90 rfl (by decide) tyX4 tyX4_ok nmX4 rfl (by decide +kernel) rfl rfl rfl (Nat.le_of_ble_eq_true rfl) rfl ?_
        refine lp_chD C hg σ2 a n0 r (by omega) (by omega) hL2 _ _ _ (by unfold lb; rw [if_pos (by omega)]) (by unfold lb; first | (exfalso; omega) | rw [if_pos (by omega)] | rw [if_neg (by omega)]) (by unfold lb; first | (exfalso; omega) | rw [if_pos (by omega)] | rw [if_neg (by omega)]) ?_ (by rw [hrow 2 (by decide)]; exact hr.2.2 (by omega)) 32 0 (by omega) (by omega) _ (by rw [up_s, zup_n (by decide)]; exact h51) (by rw [up_s, zup_n (by decide)]; exact h52) (by rw [up_s, zup_s]; rfl) (fun q hq => up_n hq) (by have := hL2 (a + (r - 1)) (by omega); omega)
        intro σ' lv d1 d2
        exact x_zret C dX4_chooseDivisor_179 (by decide) ⟨_, rfl, r, hr, fun q hq => by rw [d2 q hq]; exact hrow q hq, Or.inr ⟨by omega, rfl, d1⟩⟩
      · refine x_aload_n C dX4_chooseDivisor_73 rfl rfl ?_
        refine x_get C (Cn := RX4) (T := TX4) (N := 6) (ci := 4) 0 dX4_chooseDivisor_74 m_w_4 m_f_RX4_9 rfl (by decide) rfl rfl ?_
        refine x_iload_n C dX4_chooseDivisor_77 rfl rfl ?_
        refine x_aload_n C dX4_chooseDivisor_78 rfl rfl ?_
        refine x_get C (Cn := RX4) (T := TX4) (N := 6) (ci := 4) 2 dX4_chooseDivisor_79 m_w_4 m_f_RX4_38 rfl (by decide) rfl rfl ?_
        rw [h52]
        refine x_iadd C dX4_chooseDivisor_82 ?_
        refine x_iconst C dX4_chooseDivisor_83 ?_
        refine x_isub C dX4_chooseDivisor_84 ?_
        refine x_iald C dX4_chooseDivisor_85 rfl (by omega) (by omega) ?_
        rw [show ((a : Int) + (r : Int) - 3).toNat = a + (r - 3) by omega]
        refine x_goto (tgt := 90) C dX4_chooseDivisor_86 (by decide) ?_
        refine x_istore C (lv' := [(5, _), (4, _), (3, _), (0, _), (1, _), (2, _)]) dX4_chooseDivisor_90 (by decide) rfl ?_
        refine x_aload_n C dX4_chooseDivisor_92 rfl rfl ?_
        refine x_iconst C dX4_chooseDivisor_93 ?_
        refine k_putS C (Cn := RX4) (T := TX4) (N := 6) (ci := 4) (ty := .int) 3 dX4_chooseDivisor_94 m_w_4 m_f_RX4_90 rfl (by decide) tyX4 tyX4_ok nmX4 rfl (by decide +kernel) rfl rfl rfl (Nat.le_of_ble_eq_true rfl) rfl ?_
        refine lp_chD C hg σ2 a n0 r (by omega) (by omega) hL2 _ _ _ (by unfold lb; rw [if_pos (by omega)]) (by unfold lb; first | (exfalso; omega) | rw [if_pos (by omega)] | rw [if_neg (by omega)]) (by unfold lb; first | (exfalso; omega) | rw [if_pos (by omega)] | rw [if_neg (by omega)]) ?_ (by rw [hrow 2 (by decide)]; exact hr.2.2 (by omega)) 32 0 (by omega) (by omega) _ (by rw [up_s, zup_n (by decide)]; exact h51) (by rw [up_s, zup_n (by decide)]; exact h52) (by rw [up_s, zup_s]; rfl) (fun q hq => up_n hq) (by have := hL2 (a + (r - 1)) (by omega); omega)
        intro σ' lv d1 d2
        exact x_zret C dX4_chooseDivisor_179 (by decide) ⟨_, rfl, r, hr, fun q hq => by rw [d2 q hq]; exact hrow q hq, Or.inr ⟨by omega, rfl, d1⟩⟩
    · refine x_aload_n C dX4_chooseDivisor_46 rfl rfl ?_
      refine x_get C (Cn := RX4) (T := TX4) (N := 6) (ci := 4) 0 dX4_chooseDivisor_47 m_w_4 m_f_RX4_9 rfl (by decide) rfl rfl ?_
      refine x_iload_n C dX4_chooseDivisor_50 rfl rfl ?_
      refine x_aload_n C dX4_chooseDivisor_51 rfl rfl ?_
      refine x_get C (Cn := RX4) (T := TX4) (N := 6) (ci := 4) 2 dX4_chooseDivisor_52 m_w_4 m_f_RX4_38 rfl (by decide) rfl rfl ?_
      rw [h52]
      refine x_iadd C dX4_chooseDivisor_55 ?_
      refine x_iconst C dX4_chooseDivisor_56 ?_
      refine x_isub C dX4_chooseDivisor_57 ?_
      refine x_iald C dX4_chooseDivisor_58 rfl (by omega) (by omega) ?_
      rw [show ((a : Int) + (r : Int) - 2).toNat = a + (r - 2) by omega]
      refine x_goto (tgt := 63) C dX4_chooseDivisor_59 (by decide) ?_
      refine x_istore C (lv' := [(4, _), (3, _), (0, _), (1, _), (2, _)]) dX4_chooseDivisor_63 (by decide) rfl ?_
      refine x_aload_n C dX4_chooseDivisor_65 rfl rfl ?_
      refine x_get C (Cn := RX4) (T := TX4) (N := 6) (ci := 4) 2 dX4_chooseDivisor_66 m_w_4 m_f_RX4_38 rfl (by decide) rfl rfl ?_
      rw [h52]
      refine x_iconst C dX4_chooseDivisor_69 ?_
      refine x_icmp_le (tgt := 89) C dX4_chooseDivisor_70 (by decide) (by omega) (by omega) (fun c_70 => ?_) (fun c_70 => ?_)
      · refine x_iconst C dX4_chooseDivisor_89 ?_
        refine x_istore C (lv' := [(5, _), (4, _), (3, _), (0, _), (1, _), (2, _)]) dX4_chooseDivisor_90 (by decide) rfl ?_
        refine x_aload_n C dX4_chooseDivisor_92 rfl rfl ?_
        refine x_iconst C dX4_chooseDivisor_93 ?_
        refine k_putS C (Cn := RX4) (T := TX4) (N := 6) (ci := 4) (ty := .int) 3 dX4_chooseDivisor_94 m_w_4 m_f_RX4_90 rfl (by decide) tyX4 tyX4_ok nmX4 rfl (by decide +kernel) rfl rfl rfl (Nat.le_of_ble_eq_true rfl) rfl ?_
        refine lp_chD C hg σ2 a n0 r (by omega) (by omega) hL2 _ _ _ (by unfold lb; rw [if_pos (by omega)]) (by unfold lb; first | (exfalso; omega) | rw [if_pos (by omega)] | rw [if_neg (by omega)]) (by unfold lb; first | (exfalso; omega) | rw [if_pos (by omega)] | rw [if_neg (by omega)]) ?_ (by rw [hrow 2 (by decide)]; exact hr.2.2 (by omega)) 32 0 (by omega) (by omega) _ (by rw [up_s, zup_n (by decide)]; exact h51) (by rw [up_s, zup_n (by decide)]; exact h52) (by rw [up_s, zup_s]; rfl) (fun q hq => up_n hq) (by have := hL2 (a + (r - 1)) (by omega); omega)
        intro σ' lv d1 d2
        exact x_zret C dX4_chooseDivisor_179 (by decide) ⟨_, rfl, r, hr, fun q hq => by rw [d2 q hq]; exact hrow q hq, Or.inr ⟨by omega, rfl, d1⟩⟩
      · refine x_aload_n C dX4_chooseDivisor_73 rfl rfl ?_
        refine x_get C (Cn := RX4) (T := TX4) (N := 6) (ci := 4) 0 dX4_chooseDivisor_74 m_w_4 m_f_RX4_9 rfl (by decide) rfl rfl ?_
        refine x_iload_n C dX4_chooseDivisor_77 rfl rfl ?_
        refine x_aload_n C dX4_chooseDivisor_78 rfl rfl ?_
        refine x_get C (Cn := RX4) (T := TX4) (N := 6) (ci := 4) 2 dX4_chooseDivisor_79 m_w_4 m_f_RX4_38 rfl (by decide) rfl rfl ?_
        rw [h52]
        refine x_iadd C dX4_chooseDivisor_82 ?_
        refine x_iconst C dX4_chooseDivisor_83 ?_
        refine x_isub C dX4_chooseDivisor_84 ?_
        refine x_iald C dX4_chooseDivisor_85 rfl (by omega) (by omega) ?_
        rw [show ((a : Int) + (r : Int) - 3).toNat = a + (r - 3) by omega]
        refine x_goto (tgt := 90) C dX4_chooseDivisor_86 (by decide) ?_
        refine x_istore C (lv' := [(5, _), (4, _), (3, _), (0, _), (1, _), (2, _)]) dX4_chooseDivisor_90 (by decide) rfl ?_
        refine x_aload_n C dX4_chooseDivisor_92 rfl rfl ?_
        refine x_iconst C dX4_chooseDivisor_93 ?_
        refine k_putS C (Cn := RX4) (T := TX4) (N := 6) (ci := 4) (ty := .int) 3 dX4_chooseDivisor_94 m_w_4 m_f_RX4_90 rfl (by decide) tyX4 tyX4_ok nmX4 rfl (by decide +kernel) rfl rfl rfl (Nat.le_of_ble_eq_true rfl) rfl ?_
        refine lp_chD C hg σ2 a n0 r (by omega) (by omega) hL2 _ _ _ (by unfold lb; rw [if_pos (by omega)]) (by unfold lb; first | (exfalso; omega) | rw [if_pos (by omega)] | rw [if_neg (by omega)]) (by unfold lb; first | (exfalso; omega) | rw [if_pos (by omega)] | rw [if_neg (by omega)]) ?_ (by rw [hrow 2 (by decide)]; exact hr.2.2 (by omega)) 32 0 (by omega) (by omega) _ (by rw [up_s, zup_n (by decide)]; exact h51) (by rw [up_s, zup_n (by decide)]; exact h52) (by rw [up_s, zup_s]; rfl) (fun q hq => up_n hq) (by have := hL2 (a + (r - 1)) (by omega); omega)
        intro σ' lv d1 d2
        exact x_zret C dX4_chooseDivisor_179 (by decide) ⟨_, rfl, r, hr, fun q hq => by rw [d2 q hq]; exact hrow q hq, Or.inr ⟨by omega, rfl, d1⟩⟩
  · refine x_iconst C dX4_chooseDivisor_22 ?_
    exact x_zret C dX4_chooseDivisor_23 (by decide) ⟨_, rfl, r, hr, hrow, Or.inl ⟨by omega, rfl⟩⟩
