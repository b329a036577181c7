/-! TAKING A MULTIPLE AWAY -/
theorem sub_step {F f : Nat → Int} {u a j : Nat} {G cy L : Int} (hLe : L = F (u + j) + cy - G * F (a + j)) (heq : nv f u j + cy * 2147483648 ^ j = nv F u j - G * nv F a j) :
    nv (zup f (u + j) (L % 2147483648)) u (j + 1) + L / 2147483648 * 2147483648 ^ (j + 1) = nv F u (j + 1) - G * nv F a (j + 1) := by
  rw [nv_s, nv_s, nv_s, zup_s, bp_s, nv_ext (g := f) (b := u) (fun i hi => zup_n (by omega))]
  have h1 := dmP L (2147483648 ^ j)
  have h2 : L * 2147483648 ^ j = F (u + j) * 2147483648 ^ j + cy * 2147483648 ^ j - G * F (a + j) * 2147483648 ^ j := by rw [hLe, Int.sub_mul, Int.add_mul]
  have h3 : G * (nv F a j + F (a + j) * 2147483648 ^ j) = G * nv F a j + G * F (a + j) * 2147483648 ^ j := by rw [Int.mul_add, Int.mul_assoc]
  omega
/-- a number below 2^(31 r) and a multiple of that -/
theorem split_u {N x t P : Int} (hP : 0 < P) (hN : 0 ≤ N ∧ N < P) (h : x = N + t * P) : (0 ≤ x → x < P → t = 0 ∧ N = x) ∧ (x < 0 → -P ≤ x → t = -1 ∧ N = x + P) := by
  constructor
  · intro h0 h1
    have ht : t = 0 := by
      rcases Int.lt_trichotomy t 0 with q | q | q
      · have := Int.mul_le_mul_of_nonneg_right (show t ≤ -1 by omega) (show 0 ≤ P by omega); omega
      · exact q
      · have := Int.mul_le_mul_of_nonneg_right (show 1 ≤ t by omega) (show 0 ≤ P by omega); omega
    subst ht; omega
  · intro h0 h1
    have ht : t = -1 := by
      rcases Int.lt_trichotomy t (-1) with q | q | q
      · have := Int.mul_le_mul_of_nonneg_right (show t ≤ -2 by omega) (show 0 ≤ P by omega); omega
      · exact q
      · have := Int.mul_le_mul_of_nonneg_right (show 0 ≤ t by omega) (show 0 ≤ P by omega); omega
    subst ht; omega
set_option maxHeartbeats 4000000 in
set_option maxRecDepth 100000 in
theorem lp_subA {p : Program} {l : Launch} {e : Env} {R : Room} {s : State} {m : MethodId} {args : Array Value} {below : List Frame} {meth : Method} {c : Code} {D : va_G} {ad : Nat → Nat} {g : Nat × Nat × Nat × Nat} {Q : State → Prop} (C : Fx p s m args meth c D ad cX4_subtractTimes 11 (some .int) yX4_subtractTimes.cls tb) (hg : 3 ≤ g.1 ∧ g.1 ≤ 11 ∧ 8 ≤ g.2.1 ∧ g.2.1 ≤ 2048 ∧ 1 ≤ g.2.2.1 ∧ g.2.2.1 ≤ 24 ∧ 1 ≤ g.2.2.2 ∧ g.2.2.2 ≤ 12) (σ : St) (a r u : Nat) (h51 : σ 5 1 = a) (h52 : σ 5 2 = r) (hr : 0 < r) (har : a + r ≤ g.2.1) (hur : u + r + 1 ≤ g.2.1) (hdis : a + r ≤ u ∨ u + r + 1 ≤ a) (G : Int) (hG : 0 ≤ G ∧ G ≤ 2147483648) (K : ∀ (σ' : St) (cy : Int), LM g σ' → (∀ q, q ≠ 2 → σ' q = σ q) → (∀ q, ¬ (u ≤ q ∧ q < u + r) → σ' 2 q = σ 2 q) → -2147483648 ≤ cy ∧ cy ≤ 0 → nv (σ' 2) u r + cy * 2147483648 ^ r = nv (σ 2) u r - G * nv (σ 2) a r → X p l e R s m args below meth c D ad 11 Q (kc D ad g σ') 83 [(6, vi (r : Int)), (4, vl cy), (0, .ref (ad 5)), (1, vi (u : Int)), (2, vl G)] []) (n j : Nat) (hn : r - j < n) (hj : j ≤ r) (cy : Int) (hcy : -2147483648 ≤ cy ∧ cy ≤ 0) (σ1 : St) (hL : LM g σ1) (hrow : ∀ q, q ≠ 2 → σ1 q = σ q) (hfr : ∀ q, ¬ (u ≤ q ∧ q < u + j) → σ1 2 q = σ 2 q) (heq : nv (σ1 2) u j + cy * 2147483648 ^ j = nv (σ 2) u j - G * nv (σ 2) a j) : X p l e R s m args below meth c D ad 11 Q (kc D ad g σ1) 14 [(6, vi (j : Int)), (4, vl cy), (0, .ref (ad 5)), (1, vi (u : Int)), (2, vl G)] [] := by
  induction n generalizing j cy σ1 with
  | zero => omega
  | succ n ih =>
  have hrow5 := hrow 5 (by decide)
  refine x_iload C dX4_subtractTimes_14 rfl ?_
  refine x_aload_n C dX4_subtractTimes_16 rfl rfl ?_
  refine x_get C (Cn := RX4) (T := TX4) (N := 6) (ci := 4) 2 dX4_subtractTimes_17 m_w_4 m_f_RX4_38 rfl (by decide) rfl rfl ?_
  rw [hrow5, h52]
  refine x_icmp_ge (tgt := 83) C dX4_subtractTimes_20 (by decide) (by omega) (by omega) (fun c_20 => ?_) (fun c_20 => ?_)
  · obtain rfl : j = r := by omega
    exact K σ1 cy hL hrow hfr hcy heq
  · refine x_aload_n C dX4_subtractTimes_23 rfl rfl ?_
    refine x_get C (Cn := RX4) (T := TX4) (N := 6) (ci := 4) 0 dX4_subtractTimes_24 m_w_4 m_f_RX4_9 rfl (by decide) rfl rfl ?_
    refine x_iload_n C dX4_subtractTimes_27 rfl rfl ?_
    refine x_iload C dX4_subtractTimes_28 rfl ?_
    refine x_iadd C dX4_subtractTimes_30 ?_
    refine x_iald C dX4_subtractTimes_31 rfl (by omega) (by omega) ?_
    rw [show ((u : Int) + (j : Int)).toNat = u + j by omega]
    have hl1 := hL (u + j) (by omega)
    refine x_i2l C dX4_subtractTimes_32 (by omega) ?_
    refine x_lload C dX4_subtractTimes_33 rfl ?_
    refine x_ladd C dX4_subtractTimes_35 ?_
    refine x_lload_n C dX4_subtractTimes_36 rfl rfl ?_
    refine x_aload_n C dX4_subtractTimes_37 rfl rfl ?_
    refine x_get C (Cn := RX4) (T := TX4) (N := 6) (ci := 4) 0 dX4_subtractTimes_38 m_w_4 m_f_RX4_9 rfl (by decide) rfl rfl ?_
    refine x_aload_n C dX4_subtractTimes_41 rfl rfl ?_
    refine x_get C (Cn := RX4) (T := TX4) (N := 6) (ci := 4) 1 dX4_subtractTimes_42 m_w_4 m_f_RX4_53 rfl (by decide) rfl rfl ?_
    rw [hrow5, h51]
    refine x_iload C dX4_subtractTimes_45 rfl ?_
    refine x_iadd C dX4_subtractTimes_47 ?_
    refine x_iald C dX4_subtractTimes_48 rfl (by omega) (by omega) ?_
    rw [show ((a : Int) + (j : Int)).toNat = a + j by omega]
    have hl2 := hL (a + j) (by omega)
    refine x_i2l C dX4_subtractTimes_49 (by omega) ?_
    refine x_lmul C dX4_subtractTimes_50 ?_
    refine x_lsub C dX4_subtractTimes_51 ?_
    have e1 := hfr (u + j) (by omega)
    have e2 := hfr (a + j) (by omega)
    rw [e1] at hl1
    rw [e2] at hl2
    rw [e1, e2]
    have hm1 : 0 ≤ G * σ 2 (a + j) := Int.mul_nonneg hG.1 hl2.1
    have hm2 : G * σ 2 (a + j) ≤ 2147483648 * σ 2 (a + j) := Int.mul_le_mul_of_nonneg_right hG.2 hl2.1
    obtain ⟨s0, es⟩ : ∃ s0, s0 = σ 2 (u + j) + cy - G * σ 2 (a + j) := ⟨_, rfl⟩
    rw [← es]
    have hs0 : -4611686018427387904 ≤ s0 ∧ s0 < 2147483648 := by rw [es]; omega
    refine x_lstore C (lv' := [(7, _), (6, _), (4, _), (0, _), (1, _), (2, _)]) dX4_subtractTimes_52 (by decide) rfl ?_
    refine x_aload_n C dX4_subtractTimes_54 rfl rfl ?_
    refine x_get C (Cn := RX4) (T := TX4) (N := 6) (ci := 4) 0 dX4_subtractTimes_55 m_w_4 m_f_RX4_9 rfl (by decide) rfl rfl ?_
    refine x_iload_n C dX4_subtractTimes_58 rfl rfl ?_
    refine x_iload C dX4_subtractTimes_59 rfl ?_
    refine x_iadd C dX4_subtractTimes_61 ?_
    refine x_lload C dX4_subtractTimes_62 rfl ?_
    refine x_ldc2 C (z := 2147483647) dX4_subtractTimes_64 (C.2.2.2.2.1 _ m_k_RX4_15) (by decide) ?_
    refine x_land C (z := (s0 % 2147483648)) dX4_subtractTimes_67 (lI_mask s0) ?_
    refine x_l2i C dX4_subtractTimes_68 ?_
    refine k_ast C dX4_subtractTimes_69 (fun _ => rfl) (by omega) (by omega) ?_
    rw [show ((u : Int) + (j : Int)).toNat = u + j by omega]
    refine x_lload C dX4_subtractTimes_70 rfl ?_
    refine x_bipush C (z := 31) dX4_subtractTimes_72 (by decide) ?_
    refine x_lshr C dX4_subtractTimes_74 (by omega) (by omega) ?_
    rw [show (31 : Int).toNat = 31 from rfl, show (2 : Int) ^ 31 = 2147483648 from by decide]
    refine x_lstore C (lv' := [(4, _), (7, _), (6, _), (0, _), (1, _), (2, _)]) dX4_subtractTimes_75 (by decide) rfl ?_
    refine x_iinc C (lv' := [(6, _), (4, _), (7, _), (0, _), (1, _), (2, _)]) dX4_subtractTimes_77 rfl (by decide) rfl ?_
    refine x_goto (tgt := 14) C dX4_subtractTimes_80 (by decide) ?_
    refine X.sub [0, 1, 3, 4, 5] rfl ?_
    rw [show (j : Int) + 1 = ((j + 1 : Nat) : Int) by omega]
    have hst := sub_step es heq
    refine ih (j + 1) (by omega) (by omega) _ (by omega) _ (hL.up (by omega)) ?_ ?_ ?_
    · intro q hq; rw [up_n hq]; exact hrow q hq
    · intro q hq; rw [up_s, zup_n (by omega)]; exact hfr q (by omega)
    · rw [up_s]; exact hst
set_option maxHeartbeats 4000000 in
set_option maxRecDepth 100000 in
theorem lp_subB {p : Program} {l : Launch} {e : Env} {R : Room} {s : State} {m : MethodId} {args : Array Value} {below : List Frame} {meth : Method} {c : Code} {D : va_G} {ad : Nat → Nat} {g : Nat × Nat × Nat × Nat} {Q : State → Prop} (C : Fx p s m args meth c D ad cX4_subtractTimes 11 (some .int) yX4_subtractTimes.cls tb) (hg : 3 ≤ g.1 ∧ g.1 ≤ 11 ∧ 8 ≤ g.2.1 ∧ g.2.1 ≤ 2048 ∧ 1 ≤ g.2.2.1 ∧ g.2.2.1 ≤ 24 ∧ 1 ≤ g.2.2.2 ∧ g.2.2.2 ≤ 12) (σ : St) (a r u : Nat) (h51 : σ 5 1 = a) (h52 : σ 5 2 = r) (hr : 0 < r) (har : a + r ≤ g.2.1) (hur : u + r + 1 ≤ g.2.1) (hdis : a + r ≤ u ∨ u + r + 1 ≤ a) (G : Int) (K : ∀ (σ' : St) (cy : Int), LM g σ' → (∀ q, q ≠ 2 → σ' q = σ q) → (∀ q, ¬ (u ≤ q ∧ q < u + r) → σ' 2 q = σ 2 q) → 0 ≤ cy ∧ cy ≤ 1 → nv (σ' 2) u r + cy * 2147483648 ^ r = nv (σ 2) u r - (-1) * nv (σ 2) a r → X p l e R s m args below meth c D ad 11 Q (kc D ad g σ') 195 [(8, vi (r : Int)), (4, vl cy), (0, .ref (ad 5)), (1, vi (u : Int)), (2, vl G)] []) (n j : Nat) (hn : r - j < n) (hj : j ≤ r) (cy : Int) (hcy : 0 ≤ cy ∧ cy ≤ 1) (σ1 : St) (hL : LM g σ1) (hrow : ∀ q, q ≠ 2 → σ1 q = σ q) (hfr : ∀ q, ¬ (u ≤ q ∧ q < u + j) → σ1 2 q = σ 2 q) (heq : nv (σ1 2) u j + cy * 2147483648 ^ j = nv (σ 2) u j - (-1) * nv (σ 2) a j) : X p l e R s m args below meth c D ad 11 Q (kc D ad g σ1) 128 [(8, vi (j : Int)), (4, vl cy), (0, .ref (ad 5)), (1, vi (u : Int)), (2, vl G)] [] := by
  induction n generalizing j cy σ1 with
  | zero => omega
  | succ n ih =>
  have hrow5 := hrow 5 (by decide)
  refine x_iload C dX4_subtractTimes_128 rfl ?_
  refine x_aload_n C dX4_subtractTimes_130 rfl rfl ?_
  refine x_get C (Cn := RX4) (T := TX4) (N := 6) (ci := 4) 2 dX4_subtractTimes_131 m_w_4 m_f_RX4_38 rfl (by decide) rfl rfl ?_
  rw [hrow5, h52]
  refine x_icmp_ge (tgt := 195) C dX4_subtractTimes_134 (by decide) (by omega) (by omega) (fun c_134 => ?_) (fun c_134 => ?_)
  · obtain rfl : j = r := by omega
    exact K σ1 cy hL hrow hfr hcy heq
  · refine x_aload_n C dX4_subtractTimes_137 rfl rfl ?_
    refine x_get C (Cn := RX4) (T := TX4) (N := 6) (ci := 4) 0 dX4_subtractTimes_138 m_w_4 m_f_RX4_9 rfl (by decide) rfl rfl ?_
    refine x_iload_n C dX4_subtractTimes_141 rfl rfl ?_
    refine x_iload C dX4_subtractTimes_142 rfl ?_
    refine x_iadd C dX4_subtractTimes_144 ?_
    refine x_iald C dX4_subtractTimes_145 rfl (by omega) (by omega) ?_
    rw [show ((u : Int) + (j : Int)).toNat = u + j by omega]
    have hl1 := hL (u + j) (by omega)
    refine x_i2l C dX4_subtractTimes_146 (by omega) ?_
    refine x_lload C dX4_subtractTimes_147 rfl ?_
    refine x_ladd C dX4_subtractTimes_149 ?_
    refine x_aload_n C dX4_subtractTimes_150 rfl rfl ?_
    refine x_get C (Cn := RX4) (T := TX4) (N := 6) (ci := 4) 0 dX4_subtractTimes_151 m_w_4 m_f_RX4_9 rfl (by decide) rfl rfl ?_
    refine x_aload_n C dX4_subtractTimes_154 rfl rfl ?_
    refine x_get C (Cn := RX4) (T := TX4) (N := 6) (ci := 4) 1 dX4_subtractTimes_155 m_w_4 m_f_RX4_53 rfl (by decide) rfl rfl ?_
    rw [hrow5, h51]
    refine x_iload C dX4_subtractTimes_158 rfl ?_
    refine x_iadd C dX4_subtractTimes_160 ?_
    refine x_iald C dX4_subtractTimes_161 rfl (by omega) (by omega) ?_
    rw [show ((a : Int) + (j : Int)).toNat = a + j by omega]
    have hl2 := hL (a + j) (by omega)
    refine x_i2l C dX4_subtractTimes_162 (by omega) ?_
    refine x_ladd C dX4_subtractTimes_163 ?_
    have e1 := hfr (u + j) (by omega)
    have e2 := hfr (a + j) (by omega)
    rw [e1] at hl1
    rw [e2] at hl2
    rw [e1, e2]
    
    obtain ⟨s0, es⟩ : ∃ s0, s0 = σ 2 (u + j) + cy - (-1) * σ 2 (a + j) := ⟨_, rfl⟩
    rw [show σ 2 (u + j) + cy + σ 2 (a + j) = s0 by rw [es]; omega]
    have hs0 : 0 ≤ s0 ∧ s0 < 4294967296 := by rw [es]; omega
    refine x_lstore C (lv' := [(9, _), (8, _), (4, _), (0, _), (1, _), (2, _)]) dX4_subtractTimes_164 (by decide) rfl ?_
    refine x_aload_n C dX4_subtractTimes_166 rfl rfl ?_
    refine x_get C (Cn := RX4) (T := TX4) (N := 6) (ci := 4) 0 dX4_subtractTimes_167 m_w_4 m_f_RX4_9 rfl (by decide) rfl rfl ?_
    refine x_iload_n C dX4_subtractTimes_170 rfl rfl ?_
    refine x_iload C dX4_subtractTimes_171 rfl ?_
    refine x_iadd C dX4_subtractTimes_173 ?_
    refine x_lload C dX4_subtractTimes_174 rfl ?_
    refine x_ldc2 C (z := 2147483647) dX4_subtractTimes_176 (C.2.2.2.2.1 _ m_k_RX4_15) (by decide) ?_
    refine x_land C (z := (s0 % 2147483648)) dX4_subtractTimes_179 (lI_mask s0) ?_
    refine x_l2i C dX4_subtractTimes_180 ?_
    refine k_ast C dX4_subtractTimes_181 (fun _ => rfl) (by omega) (by omega) ?_
    rw [show ((u : Int) + (j : Int)).toNat = u + j by omega]
    refine x_lload C dX4_subtractTimes_182 rfl ?_
    refine x_bipush C (z := 31) dX4_subtractTimes_184 (by decide) ?_
    refine x_lshr C dX4_subtractTimes_186 (by omega) (by omega) ?_
    rw [show (31 : Int).toNat = 31 from rfl, show (2 : Int) ^ 31 = 2147483648 from by decide]
    refine x_lstore C (lv' := [(4, _), (9, _), (8, _), (0, _), (1, _), (2, _)]) dX4_subtractTimes_187 (by decide) rfl ?_
    refine x_iinc C (lv' := [(8, _), (4, _), (9, _), (0, _), (1, _), (2, _)]) dX4_subtractTimes_189 rfl (by decide) rfl ?_
    refine x_goto (tgt := 128) C dX4_subtractTimes_192 (by decide) ?_
    refine X.sub [0, 1, 3, 4, 5] rfl ?_
    rw [show (j : Int) + 1 = ((j + 1 : Nat) : Int) by omega]
    have hst := sub_step es heq
    refine ih (j + 1) (by omega) (by omega) _ (by omega) _ (hL.up (by omega)) ?_ ?_ ?_
    · intro q hq; rw [up_n hq]; exact hrow q hq
    · intro q hq; rw [up_s, zup_n (by omega)]; exact hfr q (by omega)
    · rw [up_s]; exact hst
set_option maxHeartbeats 4000000 in
set_option maxRecDepth 100000 in
theorem c_subtractTimes {l : Launch} {D : va_G} {ad : Nat → Nat} {g : Nat × Nat × Nat × Nat} (hg : 3 ≤ g.1 ∧ g.1 ≤ 11 ∧ 8 ≤ g.2.1 ∧ g.2.1 ≤ 2048 ∧ 1 ≤ g.2.2.1 ∧ g.2.2.1 ≤ 24 ∧ 1 ≤ g.2.2.2 ∧ g.2.2.2 ≤ 12) (σ : St) (hL : LM g σ) (a r u : Nat) (h51 : σ 5 1 = a) (h52 : σ 5 2 = r) (hr : 0 < r) (har : a + r ≤ g.2.1) (hur : u + r + 1 ≤ g.2.1) (hdis : a + r ≤ u ∨ u + r + 1 ≤ a) (hD : 0 < nv (σ 2) a r) (hU : nv (σ 2) u (r + 1) < nv (σ 2) a r * 2147483648) (G : Int) (hG1 : nv (σ 2) u (r + 1) / nv (σ 2) a r ≤ G) (hG2 : G ≤ nv (σ 2) u (r + 1) / nv (σ 2) a r + 1) : Kt l D ad g yX4_subtractTimes (Cond.code yX4_subtractTimes cX4_subtractTimes 11 (some .int) :: tb) 0 0 [.ref (ad 5), vi (u : Int), vl G] σ (fun v σ' => v = some (vi (nv (σ 2) u (r + 1) / nv (σ 2) a r)) ∧ LM g σ' ∧ (∀ q, q ≠ 2 → σ' q = σ q) ∧ (∀ q, ¬ (u ≤ q ∧ q < u + r + 1) → σ' 2 q = σ 2 q) ∧ σ' 2 (u + r) = 0 ∧ nv (σ' 2) u r = nv (σ 2) u (r + 1) % nv (σ 2) a r) := by
  refine ct_of (by decide) rfl (Nat.le_of_ble_eq_true rfl) ?_
  intro p e s m below meth c C
  change X _ _ _ _ _ _ _ _ _ _ _ _ _ _ _ _ [(0, .ref (ad 5)), (1, vi (u : Int)), (2, vl G)] _
  have hlu := hL.lim (show u + (r + 1) ≤ g.2.1 by omega)
  have hla := hL.lim har
  have q1 := Int.mul_ediv_add_emod (nv (σ 2) u (r + 1)) (nv (σ 2) a r)
  have q2 := Int.emod_nonneg (nv (σ 2) u (r + 1)) (show nv (σ 2) a r ≠ 0 by omega)
  have q3 := Int.emod_lt_of_pos (nv (σ 2) u (r + 1)) hD
  have hU0 := nv_ge hlu
  have hq0 : 0 ≤ nv (σ 2) u (r + 1) / nv (σ 2) a r := Int.ediv_nonneg hU0 (by omega)
  have hq1 : nv (σ 2) u (r + 1) / nv (σ 2) a r < 2147483648 := Int.ediv_lt_of_lt_mul hD (by rw [Int.mul_comm]; exact hU)
  have hDl := nv_lt hla
  have hP := bp_pos r
  have hns := nv_s (σ 2) u r
  refine x_lload_n C dX4_subtractTimes_0 rfl rfl ?_
  refine x_lconst0 C dX4_subtractTimes_1 ?_
  refine x_lif_ne (tgt := 8) C dX4_subtractTimes_2 dX4_subtractTimes_3 (by decide) (by omega) (by omega) (fun c_2 => ?_) (fun c_2 => ?_)
  · refine x_lconst0 C dX4_subtractTimes_8 ?_
    refine x_lstore C (lv' := [(4, _), (0, _), (1, _), (2, _)]) dX4_subtractTimes_9 (by decide) rfl ?_
    refine x_iconst C dX4_subtractTimes_11 ?_
    refine x_istore C (lv' := [(6, _), (4, _), (0, _), (1, _), (2, _)]) dX4_subtractTimes_12 (by decide) rfl ?_
    refine lp_subA C hg σ a r u h51 h52 hr har hur hdis G ⟨by omega, by omega⟩ ?_ (r + 1) 0 (by omega) (by omega) 0 (by omega) σ hL (fun _ _ => rfl) (fun _ _ => rfl) (by simp [nv])
    intro σ1 cy hL1 hrow hfr hcy heq
    have hrow5 := hrow 5 (by decide)
    have e1 := hfr (u + r) (by omega)
    have hl1 := hL (u + r) (by omega)
    refine x_aload_n C dX4_subtractTimes_83 rfl rfl ?_
    refine x_get C (Cn := RX4) (T := TX4) (N := 6) (ci := 4) 0 dX4_subtractTimes_84 m_w_4 m_f_RX4_9 rfl (by decide) rfl rfl ?_
    refine x_iload_n C dX4_subtractTimes_87 rfl rfl ?_
    refine x_aload_n C dX4_subtractTimes_88 rfl rfl ?_
    refine x_get C (Cn := RX4) (T := TX4) (N := 6) (ci := 4) 2 dX4_subtractTimes_89 m_w_4 m_f_RX4_38 rfl (by decide) rfl rfl ?_
    rw [hrow5, h52]
    refine x_iadd C dX4_subtractTimes_92 ?_
    refine x_iald C dX4_subtractTimes_93 rfl (by omega) (by omega) ?_
    rw [show ((u : Int) + (r : Int)).toNat = u + r by omega, e1]
    refine x_i2l C dX4_subtractTimes_94 (by omega) ?_
    refine x_lload C dX4_subtractTimes_95 rfl ?_
    refine x_ladd C dX4_subtractTimes_97 ?_
    refine x_lstore C (lv' := [(6, _), (4, _), (0, _), (1, _), (2, _)]) dX4_subtractTimes_98 (by decide) rfl ?_
    refine x_aload_n C dX4_subtractTimes_100 rfl rfl ?_
    refine x_get C (Cn := RX4) (T := TX4) (N := 6) (ci := 4) 0 dX4_subtractTimes_101 m_w_4 m_f_RX4_9 rfl (by decide) rfl rfl ?_
    refine x_iload_n C dX4_subtractTimes_104 rfl rfl ?_
    refine x_aload_n C dX4_subtractTimes_105 rfl rfl ?_
    refine x_get C (Cn := RX4) (T := TX4) (N := 6) (ci := 4) 2 dX4_subtractTimes_106 m_w_4 m_f_RX4_38 rfl (by decide) rfl rfl ?_
    rw [hrow5, h52]
    refine x_iadd C dX4_subtractTimes_109 ?_
    refine x_iconst C dX4_subtractTimes_110 ?_
    refine k_ast C dX4_subtractTimes_111 (fun _ => rfl) (by omega) (by omega) ?_
    rw [show ((u : Int) + (r : Int)).toNat = u + r by omega]
    have hL2 : LM g (up σ1 2 (u + r) 0) := hL1.up (by omega)
    have hN0 := nv_ge (hL1.lim (show u + r ≤ g.2.1 by omega))
    have hN1 := nv_lt (hL1.lim (show u + r ≤ g.2.1 by omega))
    have hN2 : nv (up σ1 2 (u + r) 0 2) u r = nv (σ1 2) u r := by rw [up_s]; exact nv_ext (fun i hi => zup_n (by omega))
    have hx : nv (σ 2) u (r + 1) - G * nv (σ 2) a r = nv (σ1 2) u r + (σ 2 (u + r) + cy) * 2147483648 ^ r := by rw [hns, Int.add_mul]; omega
    have hsp := split_u hP ⟨hN0, hN1⟩ hx
    have hrow2 : ∀ q, q ≠ 2 → up σ1 2 (u + r) 0 q = σ q := fun q hq => by rw [up_n hq]; exact hrow q hq
    have hfr2 : ∀ q, ¬ (u ≤ q ∧ q < u + r + 1) → up σ1 2 (u + r) 0 2 q = σ 2 q := fun q hq => by rw [up_s, zup_n (by omega)]; exact hfr q (by omega)
    have hz2 : up σ1 2 (u + r) 0 2 (u + r) = 0 := by rw [up_s, zup_s]
    have hcase : (G = nv (σ 2) u (r + 1) / nv (σ 2) a r ∧ σ 2 (u + r) + cy = 0 ∧ nv (σ1 2) u r = nv (σ 2) u (r + 1) % nv (σ 2) a r) ∨ (G = nv (σ 2) u (r + 1) / nv (σ 2) a r + 1 ∧ σ 2 (u + r) + cy = -1 ∧ nv (σ1 2) u r + nv (σ 2) a r = nv (σ 2) u (r + 1) % nv (σ 2) a r + 2147483648 ^ r) := by
      rcases (show G = nv (σ 2) u (r + 1) / nv (σ 2) a r ∨ G = nv (σ 2) u (r + 1) / nv (σ 2) a r + 1 by omega) with q | q
      · have hv : nv (σ 2) u (r + 1) - G * nv (σ 2) a r = nv (σ 2) u (r + 1) % nv (σ 2) a r := by rw [q, Int.mul_comm]; omega
        rw [hv] at hsp
        have := hsp.1 q2 (by omega)
        exact Or.inl ⟨q, this.1, this.2⟩
      · have hv : nv (σ 2) u (r + 1) - G * nv (σ 2) a r = nv (σ 2) u (r + 1) % nv (σ 2) a r - nv (σ 2) a r := by rw [q, Int.add_mul, Int.mul_comm]; omega
        rw [hv] at hsp
        have := hsp.2 (by omega) (by omega)
        exact Or.inr ⟨q, this.1, by omega⟩
    refine x_lload C dX4_subtractTimes_112 rfl ?_
    refine x_lconst0 C dX4_subtractTimes_114 ?_
    refine x_lif_lt (tgt := 122) C dX4_subtractTimes_115 dX4_subtractTimes_116 (by decide) (by omega) (by omega) (fun c_115 => ?_) (fun c_115 => ?_)
    · refine x_lconst0 C dX4_subtractTimes_122 ?_
      refine x_lstore C (lv' := [(4, _), (6, _), (0, _), (1, _), (2, _)]) dX4_subtractTimes_123 (by decide) rfl ?_
      refine x_iconst C dX4_subtractTimes_125 ?_
      refine x_istore C (lv' := [(8, _), (4, _), (6, _), (0, _), (1, _), (2, _)]) dX4_subtractTimes_126 (by decide) rfl ?_
      refine X.sub [0, 1, 3, 4, 5] rfl ?_
      refine lp_subB C hg (up σ1 2 (u + r) 0) a r u (by rw [hrow2 5 (by decide)]; exact h51) (by rw [hrow2 5 (by decide)]; exact h52) hr har hur hdis G ?_ (r + 1) 0 (by omega) (by omega) 0 (by omega) _ hL2 (fun _ _ => rfl) (fun _ _ => rfl) (by simp [nv])
      intro σ3 c3 hL3 hrow3 hfr3 hc3 heq3
      have hA : nv (up σ1 2 (u + r) 0 2) a r = nv (σ 2) a r := nv_ext (fun i hi => hfr2 _ (by omega))
      rw [hN2, hA] at heq3
      have hM0 := nv_ge (hL3.lim (show u + r ≤ g.2.1 by omega))
      have hM1 := nv_lt (hL3.lim (show u + r ≤ g.2.1 by omega))
      have hc1 : c3 = 1 := by
        rcases (show c3 = 0 ∨ c3 = 1 by omega) with q | q
        · rw [q, Int.zero_mul] at heq3; omega
        · exact q
      rw [hc1, Int.one_mul] at heq3
      refine x_lload_n C dX4_subtractTimes_195 rfl rfl ?_
      refine x_lconst1 C dX4_subtractTimes_196 ?_
      refine x_lsub C dX4_subtractTimes_197 ?_
      refine x_l2i C dX4_subtractTimes_198 ?_
      exact x_iret C dX4_subtractTimes_199 ⟨_, rfl, by rw [show G - 1 = nv (σ 2) u (r + 1) / nv (σ 2) a r by omega], hL3, fun q hq => by rw [hrow3 q hq]; exact hrow2 q hq, fun q hq => by rw [hfr3 q (by omega)]; exact hfr2 q hq, by rw [hfr3 _ (by omega)]; exact hz2, by omega⟩
    · refine x_lload_n C dX4_subtractTimes_119 rfl rfl ?_
      refine x_l2i C dX4_subtractTimes_120 ?_
      exact x_iret C dX4_subtractTimes_121 ⟨_, rfl, by rw [show G = nv (σ 2) u (r + 1) / nv (σ 2) a r by omega], hL2, hrow2, hfr2, hz2, by rw [hN2]; omega⟩
  · refine x_iconst C dX4_subtractTimes_6 ?_
    exact x_iret C dX4_subtractTimes_7 ⟨_, rfl, by rw [show nv (σ 2) u (r + 1) / nv (σ 2) a r = 0 by omega], hL, fun _ _ => rfl, fun _ _ => rfl, by
        rw [show nv (σ 2) u (r + 1) / nv (σ 2) a r = 0 by omega, Int.mul_zero, Int.zero_add] at q1
        have h1 := nv_ge (hlu.mono (show r ≤ r + 1 by omega))
        have h2 := nv_lt (hlu.mono (show r ≤ r + 1 by omega))
        exact ((split_u hP ⟨h1, h2⟩ hns).1 hU0 (by omega)).1, by
        rw [show nv (σ 2) u (r + 1) / nv (σ 2) a r = 0 by omega, Int.mul_zero, Int.zero_add] at q1
        have h1 := nv_ge (hlu.mono (show r ≤ r + 1 by omega))
        have h2 := nv_lt (hlu.mono (show r ≤ r + 1 by omega))
        rw [q1]
        exact ((split_u hP ⟨h1, h2⟩ hns).1 hU0 (by omega)).2⟩
