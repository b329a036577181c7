/-! GUESSING A DIGIT -/
theorem top_le {f : Nat → Int} {u a r : Nat} (hu : lim f u (r + 1)) (ha : lim f a r) (hr : 0 < r) (hU : nv f u (r + 1) < nv f a r * 2147483648) : f (u + r) ≤ lb f a r 0 := by
  obtain ⟨k, rfl⟩ : ∃ k, r = k + 1 := ⟨r - 1, by omega⟩
  have h1 := nv_ge (hu.mono (show k + 1 ≤ k + 1 + 1 by omega))
  have h2 := nv_lt (ha.mono (show k ≤ k + 1 by omega))
  have hP := bp_pos k
  rw [nv_s, nv_s f a, bp_s] at hU
  unfold lb
  rw [if_pos (by omega), show k + 1 - (0 + 1) = k by omega]
  generalize f (u + (k + 1)) = x at *; generalize f (a + k) = t at *; generalize (2147483648 : Int) ^ k = P at *
  rcases Int.lt_or_le t x with q | q
  · exfalso
    have h3 : (t + 1) * (P * 2147483648) ≤ x * (P * 2147483648) := Int.mul_le_mul_of_nonneg_right (by omega) (by omega)
    rw [Int.add_mul t 1, mc] at h3
    omega
  · exact q
theorem nv_pos {f : Nat → Int} {a r : Nat} (ha : lim f a r) (hr : 0 < r) (ht : 0 < lb f a r 0) : 0 < nv f a r := by
  obtain ⟨k, rfl⟩ : ∃ k, r = k + 1 := ⟨r - 1, by omega⟩
  have h1 := nv_ge (ha.mono (show k ≤ k + 1 by omega))
  unfold lb at ht
  rw [if_pos (by omega), show k + 1 - (0 + 1) = k by omega] at ht
  have h2 := Int.mul_pos ht (bp_pos k)
  rw [nv_s]; omega
theorem guess_ok {f : Nat → Int} {u a r s : Nat} (hu : lim f u (r + 1)) (ha : lim f a r) (hr : 0 < r) (hs : s ≤ 30) (hlo : 1073741824 ≤ lb f a r 0 * 2 ^ s) (hhi : lb f a r 0 * 2 ^ s < 2147483648) (hU : nv f u (r + 1) < nv f a r * 2147483648)
    {v1 v2 hi lo : Int} (e1 : v1 = dvM f a r s / 2147483648) (e2 : v2 = dvM f a r s % 2147483648) (e3 : hi = (f (u + r) * 2147483648 + lb f u r 0) * 2 ^ s + lb f u r 1 / 2 ^ (31 - s)) (e4 : lo = lb f u r 1 % 2 ^ (31 - s) * 2 ^ s + lb f u r 2 / 2 ^ (31 - s)) :
    (1073741824 ≤ v1 ∧ v1 < 2147483648) ∧ (0 ≤ v2 ∧ v2 < 2147483648) ∧ (0 ≤ hi ∧ hi < 4611686018427387904) ∧ (0 ≤ lo ∧ lo < 2147483648) ∧ (0 ≤ nv f u (r + 1) / nv f a r ∧ nv f u (r + 1) / nv f a r < 2147483648) ∧ (nv f u (r + 1) / nv f a r ≤ hi / v1 ∧ hi / v1 ≤ nv f u (r + 1) / nv f a r + 2 ∧ (hi / v1 * v2 > hi % v1 * 2147483648 + lo → nv f u (r + 1) / nv f a r ≤ hi / v1 - 1) ∧ (¬ hi / v1 * v2 > hi % v1 * 2147483648 + lo → hi / v1 < 2147483648 → hi / v1 ≤ nv f u (r + 1) / nv f a r + 1)) := by
  have hul := hu.mono (show r ≤ r + 1 by omega)
  have b0 := lb_in ha 0; have b1 := lb_in ha 1; have b2 := lb_in ha 2
  have w0 := hu r (by omega); have w1 := lb_in hul 0; have w2 := lb_in hul 1; have w3 := lb_in hul 2
  have hq := zp_pos s
  have htop := top_le hu ha hr hU
  have hT0 : 0 < lb f a r 0 := by
    rcases Int.lt_or_le 0 (lb f a r 0) with q | q
    · exact q
    · have : lb f a r 0 = 0 := by omega
      rw [this] at hlo; omega
  have hD := nv_pos ha hr hT0
  obtain ⟨m1, m2, m3, m4, m5⟩ := mvup (s := s) (by omega) b2
  obtain ⟨l1, l2, l3, l4, l5⟩ := mvup (s := s) (by omega) w2
  obtain ⟨k1, k2, k3, k4, k5⟩ := mvup (s := s) (by omega) w3
  obtain ⟨x1, x2, x3⟩ := up_in hs b0.1 hhi b1 ⟨m2, m3⟩
  have hwt : f (u + r) * 2 ^ s < 2147483648 := by
    have := Int.mul_le_mul_of_nonneg_right htop (show (0 : Int) ≤ 2 ^ s by omega); omega
  obtain ⟨y1, y2, y3⟩ := up_in hs w0.1 hwt w1 ⟨l2, l3⟩
  obtain ⟨v0, z1, z2, z3⟩ := dv_up (s := s) ha hr (by omega)
  obtain ⟨u0, t1, t2, t3⟩ := dd_up (s := s) hu hr (by omega)
  have hM : dvM f a r s = v1 * 2147483648 + v2 := by rw [e1, e2]; exact (dm _).symm
  have hMe : (lb f a r 0 * 2147483648 + lb f a r 1) * 2 ^ s + lb f a r 2 / 2 ^ (31 - s) = dvM f a r s := rfl
  rw [hMe] at x1 x2 x3 z3
  rw [← e3] at y1 y2 y3 t3
  rw [← e4] at t3
  have hv1 : 1073741824 ≤ v1 ∧ v1 < 2147483648 := by rw [e1]; omega
  have hv2 : 0 ≤ v2 ∧ v2 < 2147483648 := by rw [e2]; omega
  have hl : 0 ≤ lo ∧ lo < 2147483648 := by rw [e4]; omega
  have q1 := Int.mul_ediv_add_emod (nv f u (r + 1)) (nv f a r)
  have q2 := Int.emod_nonneg (nv f u (r + 1)) (show nv f a r ≠ 0 by omega)
  have q3 := Int.emod_lt_of_pos (nv f u (r + 1)) hD
  have hU0 := nv_ge hu
  have hq0 : 0 ≤ nv f u (r + 1) / nv f a r := Int.ediv_nonneg hU0 (by omega)
  have hq1 : nv f u (r + 1) / nv f a r < 2147483648 := Int.ediv_lt_of_lt_mul hD (by rw [Int.mul_comm]; exact hU)
  refine ⟨hv1, hv2, ⟨y1, y2⟩, hl, ⟨hq0, hq1⟩, ?_⟩
  rw [hM] at z3
  have hC : (0 : Int) < 4611686018427387904 * 2 ^ s := by omega
  generalize (4611686018427387904 : Int) * 2 ^ s = Cc at *
  generalize nv f u (r + 1) / nv f a r = Q at *
  generalize nv f u (r + 1) % nv f a r = Rm at *
  have h8 : Q * nv f a r ≤ nv f u (r + 1) := by rw [Int.mul_comm]; omega
  have h9 : nv f u (r + 1) < (Q + 1) * nv f a r := by rw [Int.add_mul, Int.one_mul, Int.mul_comm Q]; omega
  have h8 := Int.mul_le_mul_of_nonneg_right h8 (show 0 ≤ Cc by omega)
  have h9 := Int.mul_lt_mul_of_pos_right h9 hC
  rw [Int.mul_assoc, z3, t3] at h8
  rw [Int.mul_assoc (Q + 1), z3, t3] at h9
  exact knuth (v0 := v0) (w0 := u0) (P := 2147483648 ^ r) (by omega) hv2 ⟨z1, z2⟩ y1 hl ⟨t1, t2⟩ ⟨hq0, hq1⟩ h8 h9
set_option maxHeartbeats 4000000 in
set_option maxRecDepth 100000 in
theorem lp_guF {p : Program} {l : Launch} {e : Env} {R : Room} {s : State} {m : MethodId} {args : Array Value} {below : List Frame} {meth : Method} {c : Code} {D : va_G} {ad : Nat → Nat} {g : Nat × Nat × Nat × Nat} {Q : State → Prop} (C : Fx p s m args meth c D ad cX4_guessDigit 14 (some .long) yX4_guessDigit.cls tb) (hg : 3 ≤ g.1 ∧ g.1 ≤ 11 ∧ 8 ≤ g.2.1 ∧ g.2.1 ≤ 2048 ∧ 1 ≤ g.2.2.1 ∧ g.2.2.1 ≤ 24 ∧ 1 ≤ g.2.2.2 ∧ g.2.2.2 ≤ 12) (σ : St) (hL : LM g σ) (a r u : Nat) (hD : DVS g σ a r) (hur : u + r + 1 ≤ g.2.1) (hU : nv (σ 2) u (r + 1) < nv (σ 2) a r * 2147483648) (w1 w2 w3 : Int) (hw1 : w1 = lb (σ 2) u r 0) (hw2 : w2 = lb (σ 2) u r 1) (hw3 : w3 = lb (σ 2) u r 2) (K : ∀ (gz : Int) lv, nv (σ 2) u (r + 1) / nv (σ 2) a r ≤ gz → gz ≤ nv (σ 2) u (r + 1) / nv (σ 2) a r + 1 → X p l e R s m args below meth c D ad 14 Q (kc D ad g σ) 187 lv [vl gz]) : X p l e R s m args below meth c D ad 14 Q (kc D ad g σ) 71 [(5, vi w3), (4, vi w2), (3, vi w1), (2, vi ((u + r : Nat) : Int)), (0, .ref (ad 5)), (1, vi (u : Int))] [] := by
  obtain ⟨-, -, hr, har, s0, hs0, h53, hlo, hhi, h54, h55⟩ := hD
  have hlu := hL.lim (show u + (r + 1) ≤ g.2.1 by omega)
  have hla := hL.lim har
  have hul := hlu.mono (show r ≤ r + 1 by omega)
  obtain ⟨hi, ehi⟩ : ∃ hi, hi = (σ 2 (u + r) * 2147483648 + w1) * 2 ^ s0 + w2 / 2 ^ (31 - s0) := ⟨_, rfl⟩
  obtain ⟨lo, elo⟩ : ∃ lo, lo = w2 % 2 ^ (31 - s0) * 2 ^ s0 + w3 / 2 ^ (31 - s0) := ⟨_, rfl⟩
  obtain ⟨v1, ev1⟩ : ∃ v1, σ 5 4 = v1 := ⟨_, rfl⟩
  obtain ⟨v2, ev2⟩ : ∃ v2, σ 5 5 = v2 := ⟨_, rfl⟩
  obtain ⟨g1, g2, g3, g4, g5, g6, g7, g8, g9⟩ := guess_ok (hi := hi) (lo := lo) hlu hla hr hs0 hlo hhi hU (ev1.symm.trans h54) (ev2.symm.trans h55) (by rw [← hw1, ← hw2]; exact ehi) (by rw [← hw2, ← hw3]; exact elo)
  have r0 := hL (u + r) (by omega)
  have r1 := lb_in hul 0
  have r2 := lb_in hul 1
  have r3 := lb_in hul 2
  rw [← hw1] at r1
  rw [← hw2] at r2
  rw [← hw3] at r3
  obtain ⟨l1, l2, l3, l4, l5⟩ := mvup (s := s0) (by omega) r2
  obtain ⟨k1, k2, k3, k4, k5⟩ := mvup (s := s0) (by omega) r3
  have hz30 : (2 : Int) ^ s0 ≤ 2 ^ 30 := zp_le hs0
  refine x_aload_n C dX4_guessDigit_71 rfl rfl ?_
  refine x_get C (Cn := RX4) (T := TX4) (N := 6) (ci := 4) 0 dX4_guessDigit_72 m_w_4 m_f_RX4_9 rfl (by decide) rfl rfl ?_
  refine x_iload_n C dX4_guessDigit_75 rfl rfl ?_
  refine x_iald C dX4_guessDigit_76 rfl (by omega) (by omega) ?_
  rw [Int.toNat_natCast]
  refine x_i2l C dX4_guessDigit_77 (by omega) ?_
  refine x_bipush C (z := 31) dX4_guessDigit_78 (by decide) ?_
  refine x_lshl C dX4_guessDigit_80 (by omega) ?_
  rw [show (31 : Int).toNat = 31 from rfl, show (2 : Int) ^ 31 = 2147483648 from by decide]
  refine x_iload_n C dX4_guessDigit_81 rfl rfl ?_
  refine x_i2l C dX4_guessDigit_82 (by omega) ?_
  refine x_lor C (z := (σ 2 (u + r) * 2147483648 + w1)) dX4_guessDigit_83 (lI_or 31 (by decide) (c := σ 2 (u + r)) (by rw [show (2 : Int) ^ 31 = 2147483648 from by decide]) r0.1 (by rw [show (2 : Int) ^ 31 = 2147483648 from by decide]; exact r1) (by omega)) ?_
  refine x_aload_n C dX4_guessDigit_84 rfl rfl ?_
  refine x_get C (Cn := RX4) (T := TX4) (N := 6) (ci := 4) 3 dX4_guessDigit_85 m_w_4 m_f_RX4_90 rfl (by decide) rfl rfl ?_
  rw [h53]
  refine x_lshl C dX4_guessDigit_88 (by omega) ?_
  rw [Int.toNat_natCast]
  refine x_iload C dX4_guessDigit_89 rfl ?_
  refine x_bipush C (z := 31) dX4_guessDigit_91 (by decide) ?_
  refine x_aload_n C dX4_guessDigit_93 rfl rfl ?_
  refine x_get C (Cn := RX4) (T := TX4) (N := 6) (ci := 4) 3 dX4_guessDigit_94 m_w_4 m_f_RX4_90 rfl (by decide) rfl rfl ?_
  rw [h53]
  refine x_isub C dX4_guessDigit_97 ?_
  refine x_ishr C dX4_guessDigit_98 (by omega) (by omega) ?_
  rw [show ((31 : Int) - (s0 : Int)).toNat = 31 - s0 by omega]
  refine x_i2l C dX4_guessDigit_99 (by omega) ?_
  refine x_lor C (z := hi) dX4_guessDigit_100 (by rw [lI_or s0 (by omega) rfl (by omega) ⟨l2, l3⟩ (by omega), ← ehi]) ?_
  refine x_lstore C (lv' := [(6, _), (5, _), (4, _), (3, _), (2, _), (0, _), (1, _)]) dX4_guessDigit_101 (by decide) rfl ?_
  refine x_iload C dX4_guessDigit_103 rfl ?_
  refine x_i2l C dX4_guessDigit_105 (by omega) ?_
  refine x_aload_n C dX4_guessDigit_106 rfl rfl ?_
  refine x_get C (Cn := RX4) (T := TX4) (N := 6) (ci := 4) 3 dX4_guessDigit_107 m_w_4 m_f_RX4_90 rfl (by decide) rfl rfl ?_
  rw [h53]
  refine x_lshl C dX4_guessDigit_110 (by omega) ?_
  rw [Int.toNat_natCast]
  refine x_iload C dX4_guessDigit_111 rfl ?_
  refine x_bipush C (z := 31) dX4_guessDigit_113 (by decide) ?_
  refine x_aload_n C dX4_guessDigit_115 rfl rfl ?_
  refine x_get C (Cn := RX4) (T := TX4) (N := 6) (ci := 4) 3 dX4_guessDigit_116 m_w_4 m_f_RX4_90 rfl (by decide) rfl rfl ?_
  rw [h53]
  refine x_isub C dX4_guessDigit_119 ?_
  refine x_ishr C dX4_guessDigit_120 (by omega) (by omega) ?_
  rw [show ((31 : Int) - (s0 : Int)).toNat = 31 - s0 by omega]
  refine x_i2l C dX4_guessDigit_121 (by omega) ?_
  refine x_lor C (z := (w2 * 2 ^ s0 + w3 / 2 ^ (31 - s0))) dX4_guessDigit_122 (lI_or s0 (by omega) rfl r2.1 ⟨k2, k3⟩ (by omega)) ?_
  refine x_ldc2 C (z := 2147483647) dX4_guessDigit_123 (C.2.2.2.2.1 _ m_k_RX4_15) (by decide) ?_
  refine x_land C (z := lo) dX4_guessDigit_126 (by rw [lI_mask, elo]; congr 1; omega) ?_
  refine x_lstore C (lv' := [(8, _), (6, _), (5, _), (4, _), (3, _), (2, _), (0, _), (1, _)]) dX4_guessDigit_127 (by decide) rfl ?_
  refine x_lload C dX4_guessDigit_129 rfl ?_
  refine x_aload_n C dX4_guessDigit_131 rfl rfl ?_
  refine x_get C (Cn := RX4) (T := TX4) (N := 6) (ci := 4) 4 dX4_guessDigit_132 m_w_4 m_f_RX4_93 rfl (by decide) rfl rfl ?_
  rw [ev1]
  refine x_ldiv C (z := (hi / v1)) dX4_guessDigit_135 (fun q => by have := (lI_eq (show -9223372036854775808 ≤ v1 ∧ v1 < 9223372036854775808 by omega) (show -9223372036854775808 ≤ (0 : Int) ∧ (0 : Int) < 9223372036854775808 by omega)).mp q; omega) (lI_div (by omega) (by omega)) ?_
  refine x_lstore C (lv' := [(10, _), (8, _), (6, _), (5, _), (4, _), (3, _), (2, _), (0, _), (1, _)]) dX4_guessDigit_136 (by decide) rfl ?_
  refine x_lload C dX4_guessDigit_138 rfl ?_
  refine x_lload C dX4_guessDigit_140 rfl ?_
  refine x_aload_n C dX4_guessDigit_142 rfl rfl ?_
  refine x_get C (Cn := RX4) (T := TX4) (N := 6) (ci := 4) 4 dX4_guessDigit_143 m_w_4 m_f_RX4_93 rfl (by decide) rfl rfl ?_
  rw [ev1]
  refine x_lmul C dX4_guessDigit_146 ?_
  refine x_lsub C dX4_guessDigit_147 ?_
  have erest : hi - hi / v1 * v1 = hi % v1 := by rw [Int.emod_def, Int.mul_comm v1]
  rw [erest]
  have rr0 := Int.emod_nonneg hi (show v1 ≠ 0 by omega)
  have rr1 := Int.emod_lt_of_pos hi (show 0 < v1 by omega)
  have hdl : hi / v1 ≤ hi := Int.ediv_le_self v1 (by omega)
  refine x_lstore C (lv' := [(12, _), (10, _), (8, _), (6, _), (5, _), (4, _), (3, _), (2, _), (0, _), (1, _)]) dX4_guessDigit_148 (by decide) rfl ?_
  refine x_lload C dX4_guessDigit_150 rfl ?_
  refine x_ldc2 C (z := 2147483647) dX4_guessDigit_152 (C.2.2.2.2.1 _ m_k_RX4_15) (by decide) ?_
  refine x_lif_gt (tgt := 178) C dX4_guessDigit_155 dX4_guessDigit_156 (by decide) (by omega) (by omega) (fun c_155 => ?_) (fun c_155 => ?_)
  · refine x_lload C dX4_guessDigit_178 rfl ?_
    refine x_lconst1 C dX4_guessDigit_180 ?_
    refine x_lsub C dX4_guessDigit_181 ?_
    refine x_goto (tgt := 187) C dX4_guessDigit_182 (by decide) ?_
    first
    | exact K _ _ (by omega) (by omega)
    | exact K _ _ (by have := g8 (by omega); omega) (by omega)
    | exact K _ _ (by omega) (g9 (by omega) (by omega))
  · refine x_lload C dX4_guessDigit_159 rfl ?_
    refine x_aload_n C dX4_guessDigit_161 rfl rfl ?_
    refine x_get C (Cn := RX4) (T := TX4) (N := 6) (ci := 4) 5 dX4_guessDigit_162 m_w_4 m_f_RX4_97 rfl (by decide) rfl rfl ?_
    rw [ev2]
    refine x_lmul C dX4_guessDigit_165 ?_
    have hmm := mulB (x := hi / v1) (y := v2) (by omega) g2
    refine x_lload C dX4_guessDigit_166 rfl ?_
    refine x_bipush C (z := 31) dX4_guessDigit_168 (by decide) ?_
    refine x_lshl C dX4_guessDigit_170 (by omega) ?_
    rw [show (31 : Int).toNat = 31 from rfl, show (2 : Int) ^ 31 = 2147483648 from by decide]
    refine x_lload C dX4_guessDigit_171 rfl ?_
    refine x_lor C (z := (hi % v1 * 2147483648 + lo)) dX4_guessDigit_173 (lI_or 31 (by decide) (c := hi % v1) (by rw [show (2 : Int) ^ 31 = 2147483648 from by decide]) rr0 (by rw [show (2 : Int) ^ 31 = 2147483648 from by decide]; exact g4) (by omega)) ?_
    refine x_lif_le (tgt := 185) C dX4_guessDigit_174 dX4_guessDigit_175 (by decide) (by omega) (by omega) (fun c_174 => ?_) (fun c_174 => ?_)
    · refine x_lload C dX4_guessDigit_185 rfl ?_
      first
      | exact K _ _ (by omega) (by omega)
      | exact K _ _ (by have := g8 (by omega); omega) (by omega)
      | exact K _ _ (by omega) (g9 (by omega) (by omega))
    · refine x_lload C dX4_guessDigit_178 rfl ?_
      refine x_lconst1 C dX4_guessDigit_180 ?_
      refine x_lsub C dX4_guessDigit_181 ?_
      refine x_goto (tgt := 187) C dX4_guessDigit_182 (by decide) ?_
      first
      | exact K _ _ (by omega) (by omega)
      | exact K _ _ (by have := g8 (by omega); omega) (by omega)
      | exact K _ _ (by omega) (g9 (by omega) (by omega))
set_option maxHeartbeats 4000000 in
set_option maxRecDepth 100000 in
theorem c_guessDigit {l : Launch} {D : va_G} {ad : Nat → Nat} {g : Nat × Nat × Nat × Nat} (hg : 3 ≤ g.1 ∧ g.1 ≤ 11 ∧ 8 ≤ g.2.1 ∧ g.2.1 ≤ 2048 ∧ 1 ≤ g.2.2.1 ∧ g.2.2.1 ≤ 24 ∧ 1 ≤ g.2.2.2 ∧ g.2.2.2 ≤ 12) (σ : St) (hL : LM g σ) (a r u : Nat) (hD : DVS g σ a r) (hur : u + r + 1 ≤ g.2.1) (hU : nv (σ 2) u (r + 1) < nv (σ 2) a r * 2147483648) : Kt l D ad g yX4_guessDigit (Cond.code yX4_guessDigit cX4_guessDigit 14 (some .long) :: tb) 0 0 [.ref (ad 5), vi (u : Int)] σ (fun v σ' => σ = σ' ∧ ∃ gz : Int, v = some (vl gz) ∧ nv (σ 2) u (r + 1) / nv (σ 2) a r ≤ gz ∧ gz ≤ nv (σ 2) u (r + 1) / nv (σ 2) a r + 1) := by
  refine ct_of (by decide) rfl (Nat.le_of_ble_eq_true rfl) ?_
  intro p e s m below meth c C
  change X _ _ _ _ _ _ _ _ _ _ _ _ _ _ _ _ [(0, .ref (ad 5)), (1, vi (u : Int))] _
  have hD0 := hD
  obtain ⟨h51, h52, hr, har, s0, hs0, h53, hlo, hhi, h54, h55⟩ := hD0
  have hg1 := (guess_ok (hL.lim (show u + (r + 1) ≤ g.2.1 by omega)) (hL.lim har) hr hs0 hlo hhi hU h54 h55 rfl rfl).1
  refine x_aload_n C dX4_guessDigit_0 rfl rfl ?_
  refine x_get C (Cn := RX4) (T := TX4) (N := 6) (ci := 4) 4 dX4_guessDigit_1 m_w_4 m_f_RX4_93 rfl (by decide) rfl rfl ?_
  refine x_lconst0 C dX4_guessDigit_4 ?_
  refine x_lif_ne (tgt := 11) C dX4_guessDigit_5 dX4_guessDigit_6 (by decide) (by omega) (by omega) (fun c_5 => ?_) (fun c_5 => ?_)
  · refine x_iload_n C dX4_guessDigit_11 rfl rfl ?_
    refine x_aload_n C dX4_guessDigit_12 rfl rfl ?_
    refine x_get C (Cn := RX4) (T := TX4) (N := 6) (ci := 4) 2 dX4_guessDigit_13 m_w_4 m_f_RX4_38 rfl (by decide) rfl rfl ?_
    rw [h52]
    refine x_iadd C dX4_guessDigit_16 ?_
    rw [show (u : Int) + (r : Int) = ((u + r : Nat) : Int) by omega]
    refine x_istore_n C (lv' := [(2, _), (0, _), (1, _)]) dX4_guessDigit_17 rfl (by decide) rfl ?_
    refine x_aload_n C dX4_guessDigit_18 rfl rfl ?_
    refine x_get C (Cn := RX4) (T := TX4) (N := 6) (ci := 4) 0 dX4_guessDigit_19 m_w_4 m_f_RX4_9 rfl (by decide) rfl rfl ?_
    refine x_iload_n C dX4_guessDigit_22 rfl rfl ?_
    refine x_iconst C dX4_guessDigit_23 ?_
    refine x_isub C dX4_guessDigit_24 ?_
    refine x_iald C dX4_guessDigit_25 rfl (by omega) (by omega) ?_
    rw [show (((u + r : Nat) : Int) - 1).toNat = u + (r - 1) by omega]
    refine x_istore_n C (lv' := [(3, _), (2, _), (0, _), (1, _)]) dX4_guessDigit_26 rfl (by decide) rfl ?_
    refine x_aload_n C dX4_guessDigit_27 rfl rfl ?_
    refine x_get C (Cn := RX4) (T := TX4) (N := 6) (ci := 4) 2 dX4_guessDigit_28 m_w_4 m_f_RX4_38 rfl (by decide) rfl rfl ?_
    rw [h52]
    refine x_iconst C dX4_guessDigit_31 ?_
    refine x_icmp_le (tgt := 46) C dX4_guessDigit_32 (by decide) (by omega) (by omega) (fun c_32 => ?_) (fun c_32 => ?_)
    · refine x_iconst C dX4_guessDigit_46 ?_
      refine x_istore C (lv' := [(4, _), (3, _), (2, _), (0, _), (1, _)]) dX4_guessDigit_47 (by decide) rfl ?_
      refine x_aload_n C dX4_guessDigit_49 rfl rfl ?_
      refine x_get C (Cn := RX4) (T := TX4) (N := 6) (ci := 4) 2 dX4_guessDigit_50 m_w_4 m_f_RX4_38 rfl (by decide) rfl rfl ?_
      rw [h52]
      refine x_iconst C dX4_guessDigit_53 ?_
      refine x_icmp_le (tgt := 68) C dX4_guessDigit_54 (by decide) (by omega) (by omega) (fun c_54 => ?_) (fun c_54 => ?_)
      · refine x_iconst C dX4_guessDigit_68 ?_
        refine x_istore C (lv' := [(5, _), (4, _), (3, _), (2, _), (0, _), (1, _)]) dX4_guessDigit_69 (by decide) rfl ?_
        refine lp_guF C hg σ hL a r u hD hur hU _ _ _ (by unfold lb; rw [if_pos (by omega)]) (by unfold lb; first | (exfalso; omega) | rw [if_pos (by omega)] | rw [if_neg (by omega)]) (by unfold lb; first | (exfalso; omega) | rw [if_pos (by omega)] | rw [if_neg (by omega)]) ?_
        intro gz lv d1 d2
        exact x_lret C dX4_guessDigit_187 ⟨_, rfl, rfl, gz, rfl, d1, d2⟩
      · refine x_aload_n C dX4_guessDigit_57 rfl rfl ?_
        refine x_get C (Cn := RX4) (T := TX4) (N := 6) (ci := 4) 0 dX4_guessDigit_58 m_w_4 m_f_RX4_9 rfl (by decide) rfl rfl ?_
        refine x_iload_n C dX4_guessDigit_61 rfl rfl ?_
        refine x_iconst C dX4_guessDigit_62 ?_
        refine x_isub C dX4_guessDigit_63 ?_
        refine x_iald C dX4_guessDigit_64 rfl (by omega) (by omega) ?_
        rw [show (((u + r : Nat) : Int) - 3).toNat = u + (r - 3) by omega]
        refine x_goto (tgt := 69) C dX4_guessDigit_65 (by decide) ?_
        refine x_istore C (lv' := [(5, _), (4, _), (3, _), (2, _), (0, _), (1, _)]) dX4_guessDigit_69 (by decide) rfl ?_
        refine lp_guF C hg σ hL a r u hD hur hU _ _ _ (by unfold lb; rw [if_pos (by omega)]) (by unfold lb; first | (exfalso; omega) | rw [if_pos (by omega)] | rw [if_neg (by omega)]) (by unfold lb; first | (exfalso; omega) | rw [if_pos (by omega)] | rw [if_neg (by omega)]) ?_
        intro gz lv d1 d2
        exact x_lret C dX4_guessDigit_187 ⟨_, rfl, rfl, gz, rfl, d1, d2⟩
    · refine x_aload_n C dX4_guessDigit_35 rfl rfl ?_
      refine x_get C (Cn := RX4) (T := TX4) (N := 6) (ci := 4) 0 dX4_guessDigit_36 m_w_4 m_f_RX4_9 rfl (by decide) rfl rfl ?_
      refine x_iload_n C dX4_guessDigit_39 rfl rfl ?_
      refine x_iconst C dX4_guessDigit_40 ?_
      refine x_isub C dX4_guessDigit_41 ?_
      refine x_iald C dX4_guessDigit_42 rfl (by omega) (by omega) ?_
      rw [show (((u + r : Nat) : Int) - 2).toNat = u + (r - 2) by omega]
      refine x_goto (tgt := 47) C dX4_guessDigit_43 (by decide) ?_
      refine x_istore C (lv' := [(4, _), (3, _), (2, _), (0, _), (1, _)]) dX4_guessDigit_47 (by decide) rfl ?_
      refine x_aload_n C dX4_guessDigit_49 rfl rfl ?_
      refine x_get C (Cn := RX4) (T := TX4) (N := 6) (ci := 4) 2 dX4_guessDigit_50 m_w_4 m_f_RX4_38 rfl (by decide) rfl rfl ?_
      rw [h52]
      refine x_iconst C dX4_guessDigit_53 ?_
      refine x_icmp_le (tgt := 68) C dX4_guessDigit_54 (by decide) (by omega) (by omega) (fun c_54 => ?_) (fun c_54 => ?_)
      · refine x_iconst C dX4_guessDigit_68 ?_
        refine x_istore C (lv' := [(5, _), (4, _), (3, _), (2, _), (0, _), (1, _)]) dX4_guessDigit_69 (by decide) rfl ?_
        refine lp_guF C hg σ hL a r u hD hur hU _ _ _ (by unfold lb; rw [if_pos (by omega)]) (by unfold lb; first | (exfalso; omega) | rw [if_pos (by omega)] | rw [if_neg (by omega)]) (by unfold lb; first | (exfalso; omega) | rw [if_pos (by omega)] | rw [if_neg (by omega)]) ?_
        intro gz lv d1 d2
        exact x_lret C dX4_guessDigit_187 ⟨_, rfl, rfl, gz, rfl, d1, d2⟩
      · refine x_aload_n C dX4_guessDigit_57 rfl rfl ?_
        refine x_get C (Cn := RX4) (T := TX4) (N := 6) (ci := 4) 0 dX4_guessDigit_58 m_w_4 m_f_RX4_9 rfl (by decide) rfl rfl ?_
        refine x_iload_n C dX4_guessDigit_61 rfl rfl ?_
        refine x_iconst C dX4_guessDigit_62 ?_
        refine x_isub C dX4_guessDigit_63 ?_
        refine x_iald C dX4_guessDigit_64 rfl (by omega) (by omega) ?_
        rw [show (((u + r : Nat) : Int) - 3).toNat = u + (r - 3) by omega]
        refine x_goto (tgt := 69) C dX4_guessDigit_65 (by decide) ?_
        refine x_istore C (lv' := [(5, _), (4, _), (3, _), (2, _), (0, _), (1, _)]) dX4_guessDigit_69 (by decide) rfl ?_
        refine lp_guF C hg σ hL a r u hD hur hU _ _ _ (by unfold lb; rw [if_pos (by omega)]) (by unfold lb; first | (exfalso; omega) | rw [if_pos (by omega)] | rw [if_neg (by omega)]) (by unfold lb; first | (exfalso; omega) | rw [if_pos (by omega)] | rw [if_neg (by omega)]) ?_
        intro gz lv d1 d2
        exact x_lret C dX4_guessDigit_187 ⟨_, rfl, rfl, gz, rfl, d1, d2⟩
  · omega
