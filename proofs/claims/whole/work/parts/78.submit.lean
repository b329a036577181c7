/-! SUBMIT -/
def fin (g : Nat × Nat × Nat × Nat) (σ : St) (h : Int) : Prop := ∃ n : Nat, h = n ∧ n < g.2.2.1 ∧ σ (10 + n) 0 = 1 ∧ σ (10 + n) 1 = 0
def zer (σ : St) (h : Int) : Prop := ∃ A n : Nat, σ (10 + h.toNat) 3 = A ∧ σ (10 + h.toNat) 2 = n ∧ sgP (σ 2) A n 0
theorem isF.neg {g : Nat × Nat × Nat × Nat} {σ : St} {h x : Int} (e : isF g σ h x) (hx : x = 0) : ¬ fin g σ h := fun ⟨n, a, b, c, d⟩ => e.no hx n a b ⟨c, d⟩
theorem sg_u {f : Nat → Int} {a n r r' : Nat} (h : sgP f a n r) (h' : sgP f a n r') : r = r' := by
  rcases Nat.lt_trichotomy r r' with q | q | q
  · exact absurd (h.2.1 (r' - 1) (by omega) (by have := h'.1; omega)) (h'.2.2 (by omega))
  · exact q
  · exact absurd (h'.2.1 (r - 1) (by omega) (by have := h.1; omega)) (h.2.2 (by omega))
def sbJ (g : Nat × Nat × Nat × Nat) (σ σ' : St) (q : List Int) (op a b m : Int) (j : Nat) : Prop := ∃ (an bn mn sa sb sm : Nat) (σ2 σ3 σ4 : St), a = an ∧ b = bn ∧ (op = 3 → m = mn ∧ σ (10 + mn) 2 = sm) ∧ (op ≠ 3 → sm = 0) ∧ σ (10 + an) 2 = sa ∧ σ (10 + bn) 2 = sb ∧
  ndP (up (up (up (up σ (40 + j) 1 op) (40 + j) 2 a) (40 + j) 3 b) (40 + j) 4 (if op = 3 then m else -1)) σ2 (40 + j) (plL op sa sb sm) (plR op sa sb sm) (plW op sa sb sm) ∧ cpP (up σ2 (40 + j) 0 0) σ3 op an bn mn 1 ∧ (Qs g σ4 (q ++ [(j : Int)]) ∧ ∀ k, k ≠ 8 → k ≠ 9 → σ4 k = σ3 k) ∧ σ' = up σ4 0 7 (σ4 0 7 + 1)
def sbP (g : Nat × Nat × Nat × Nat) (σ σ' : St) (q : List Int) (op a b m v : Int) : Prop := (¬ (0 ≤ op ∧ op ≤ 3) ∧ v = -5 ∧ σ = σ') ∨ ((0 ≤ op ∧ op ≤ 3) ∧ ((¬ (fin g σ a ∧ fin g σ b ∧ (op = 3 → fin g σ m)) ∧ v = -6 ∧ σ = σ') ∨ ((fin g σ a ∧ fin g σ b ∧ (op = 3 → fin g σ m)) ∧
  ((((op = 1 ∧ zer σ b) ∨ (op = 3 ∧ zer σ m)) ∧ v = -7 ∧ σ = σ') ∨ (¬ ((op = 1 ∧ zer σ b) ∨ (op = 3 ∧ zer σ m)) ∧
    (((∀ k, k < g.2.2.2 → ¬ σ (40 + k) 0 = -1) ∧ v = -8 ∧ σ = σ') ∨ ∃ j : Nat, (j < g.2.2.2 ∧ σ (40 + j) 0 = -1 ∧ ∀ i, i < j → ¬ σ (40 + i) 0 = -1) ∧ v = j ∧ sbJ g σ σ' q op a b m j))))))
set_option maxHeartbeats 4000000 in
set_option maxRecDepth 100000 in
theorem lp_sbC3 {p : Program} {l : Launch} {e : Env} {R : Room} {s : State} {m : MethodId} {args : Array Value} {below : List Frame} {meth : Method} {c : Code} {D : va_G} {ad : Nat → Nat} {g : Nat × Nat × Nat × Nat} {Q : State → Prop} (C : Fx p s m args meth c D ad cX5_submit 7 (some .int) yX5_submit.cls tb) (hg : 3 ≤ g.1 ∧ g.1 ≤ 11 ∧ 8 ≤ g.2.1 ∧ g.2.1 ≤ 2048 ∧ 1 ≤ g.2.2.1 ∧ g.2.2.1 ≤ 24 ∧ 1 ≤ g.2.2.2 ∧ g.2.2.2 ≤ 12) (hR : 3 ≤ R.frames ∧ 180 ≤ R.locals) (σ : St) (hF : FLG g σ) (hS : STT g σ) (hN : NUM g σ) (hL : LM g σ) (q : List Int) (hq : Qs g σ q) (hql : ∀ k, k < g.2.2.2 → σ (40 + k) 0 = -1 → q.length < g.2.2.2) (op mi : Int) (an bn : Nat) (ho : 0 ≤ op ∧ op ≤ 3) (rg_mi : -2147483648 ≤ mi ∧ mi < 2147483648) (ha : an < g.2.2.1 ∧ σ (10 + an) 0 = 1 ∧ σ (10 + an) 1 = 0) (hb : bn < g.2.2.1 ∧ σ (10 + bn) 0 = 1 ∧ σ (10 + bn) 1 = 0) (hm : op = 3 → fin g σ mi) (h3 : op = 3) (hnz : ¬ ((op = 1 ∧ zer σ bn) ∨ (op = 3 ∧ zer σ mi))) (K : ∀ (σ' : St) (r : Int) pc lv, (pc = 74 ∨ pc = 89 ∨ pc = 212) → sbP g σ σ' q op an bn mi r → X p l e R s m args below meth c D ad 7 Q (kc D ad g σ') pc lv [vi r]) : X p l e R s m args below meth c D ad 7 Q (kc D ad g σ) 75 [(0, .ref (ad 0)), (1, vi op), (2, vi (an : Int)), (3, vi (bn : Int)), (4, vi mi)] [] := by
  obtain ⟨Aa, sa, hNa, -⟩ := hN an ha.1 ha.2.1
  obtain ⟨Ab, sb, hNb, -⟩ := hN bn hb.1 hb.2.1
  obtain ⟨na1, na3, na2, naA⟩ := id hNa
  obtain ⟨nb1, nb3, nb2, nbA⟩ := id hNb
  obtain ⟨mn, rfl, hmn, hmu, hmf⟩ := hm h3
  obtain ⟨Am, sm, hNm, -⟩ := hN mn hmn hmu
  obtain ⟨nm1, nm3, nm2, nmA⟩ := id hNm
  refine x_aload_n C dX5_submit_75 rfl rfl ?_
  refine x_callV C (ci := 5) (nn := 0) (c_leastFreeJob hg σ hS) g_RX5_122 rfl (by decide +kernel) ⟨by first | decide | omega, by first | decide | omega⟩ rfl rfl rfl rfl rfl (Nat.le_of_ble_eq_true rfl) dX5_submit_76 (fun v h1 hp => ?_)
  obtain ⟨σ1, rfl, rfl, r, rfl, hl⟩ := hp
  have hlr : -1 ≤ r ∧ r < 12 := by rcases hl with ⟨e, -⟩ | ⟨k, e, e2, -⟩ <;> omega
  dsimp only [Option.toList, List.cons_append, List.nil_append]
  refine x_istore C (lv' := [(5, _), (0, _), (1, _), (2, _), (3, _), (4, _)]) dX5_submit_79 (by decide) rfl ?_
  refine x_iload C dX5_submit_81 rfl ?_
  refine x_iconst C dX5_submit_83 ?_
  refine x_icmp_ne (tgt := 90) C dX5_submit_84 (by decide) (by omega) (by omega) (fun c_84 => ?_) (fun c_84 => ?_)
  · obtain ⟨j, rfl, hj1, hj2, hj3⟩ : ∃ k : Nat, r = k ∧ k < g.2.2.2 ∧ σ (40 + k) 0 = -1 ∧ ∀ i, i < k → ¬ σ (40 + i) 0 = -1 := by
      rcases hl with ⟨e, -⟩ | e
      · exact absurd e c_84
      · exact e
    clear hl
    have hqj := hql j hj1 hj2
    refine x_aload_n C dX5_submit_90 rfl rfl ?_
    refine x_get C (Cn := RX5) (T := TX5) (N := 9) (ci := 5) 3 dX5_submit_91 m_w_5 m_f_RX5_37 rfl (by decide) rfl rfl ?_
    refine x_iload C dX5_submit_94 rfl ?_
    refine x_aald C 3 (Cn := "LimbKernel$Job") dX5_submit_96 rfl rfl (by omega) (by omega) rfl ?_
    try rw [Int.toNat_natCast]
    refine x_astore C (lv' := [(6, _), (5, _), (0, _), (1, _), (2, _), (3, _), (4, _)]) dX5_submit_97 (by decide) rfl ?_
    refine x_aload C dX5_submit_99 rfl ?_
    refine x_iload_n C dX5_submit_101 rfl rfl ?_
    refine k_putJ C 1 (by decide) dX5_submit_102 m_f_RX5_125 rfl (by decide +kernel) (by omega) (by omega) ?_
    refine x_aload C dX5_submit_105 rfl ?_
    refine x_iload_n C dX5_submit_107 rfl rfl ?_
    refine k_putJ C 2 (by decide) dX5_submit_108 m_f_RX5_128 rfl (by decide +kernel) (by omega) (by omega) ?_
    refine x_aload C dX5_submit_111 rfl ?_
    refine x_iload_n C dX5_submit_113 rfl rfl ?_
    refine k_putJ C 3 (by decide) dX5_submit_114 m_f_RX5_131 rfl (by decide +kernel) (by omega) (by omega) ?_
    refine x_aload C dX5_submit_117 rfl ?_
    refine x_iload_n C dX5_submit_119 rfl rfl ?_
    refine x_iconst C dX5_submit_120 ?_
    refine x_icmp_ne (tgt := 129) C dX5_submit_121 (by decide) (by omega) (by omega) (fun c_121 => ?_) (fun c_121 => ?_)
    · exact absurd h3 c_121
    · refine x_iload C dX5_submit_124 rfl ?_
      refine x_goto (tgt := 130) C dX5_submit_126 (by decide) ?_
      refine k_putJ C 4 (by decide) dX5_submit_130 m_f_RX5_134 rfl (by decide +kernel) (by omega) (by omega) ?_
      obtain ⟨σ1, hσ1⟩ : ∃ σ1, σ1 = (up (up (up (up σ (40 + j) 1 op) (40 + j) 2 (an : Int)) (40 + j) 3 (bn : Int)) (40 + j) 4 (mn : Int)) := ⟨_, rfl⟩
      rw [← hσ1]
      have r1 : ∀ k, k ≠ 40 + j → σ1 k = σ k := fun k hk => by rw [hσ1, up_n hk, up_n hk, up_n hk, up_n hk]
      have e1 : σ1 (40 + j) 1 = op := by rw [hσ1, up_s, zup_n (by decide), up_s, zup_n (by decide), up_s, zup_n (by decide), up_s, zup_s]
      have e2 : σ1 (40 + j) 2 = an := by rw [hσ1, up_s, zup_n (by decide), up_s, zup_n (by decide), up_s, zup_s]
      have e3 : σ1 (40 + j) 3 = bn := by rw [hσ1, up_s, zup_n (by decide), up_s, zup_s]
      have e4 : σ1 (40 + j) 4 = (mn : Int) := by rw [hσ1, up_s, zup_s]
      refine x_aload C dX5_submit_133 rfl ?_
      refine x_aload_n C dX5_submit_135 rfl rfl ?_
      refine x_get C (Cn := RX5) (T := TX5) (N := 9) (ci := 5) 2 dX5_submit_136 m_w_5 m_f_RX5_44 rfl (by decide) rfl rfl ?_
      refine x_iload_n C dX5_submit_139 rfl rfl ?_
      refine x_aald C 4 (Cn := "LimbKernel$Numeral") dX5_submit_140 rfl rfl (by omega) (by omega) rfl ?_
      try rw [Int.toNat_natCast]
      refine x_get C (Cn := RX2) (T := TX2) (N := 6) (ci := 2) 2 dX5_submit_141 m_w_2 m_f_RX5_110 rfl (by decide) (kc_num (by omega)) rfl ?_
      rw [r1 _ (by omega), na2]
      refine x_i2l C dX5_submit_144 (by omega) ?_
      refine x_aload_n C dX5_submit_145 rfl rfl ?_
      refine x_get C (Cn := RX5) (T := TX5) (N := 9) (ci := 5) 2 dX5_submit_146 m_w_5 m_f_RX5_44 rfl (by decide) rfl rfl ?_
      refine x_iload_n C dX5_submit_149 rfl rfl ?_
      refine x_aald C 4 (Cn := "LimbKernel$Numeral") dX5_submit_150 rfl rfl (by omega) (by omega) rfl ?_
      try rw [Int.toNat_natCast]
      refine x_get C (Cn := RX2) (T := TX2) (N := 6) (ci := 2) 2 dX5_submit_151 m_w_2 m_f_RX5_110 rfl (by decide) (kc_num (by omega)) rfl ?_
      rw [r1 _ (by omega), nb2]
      refine x_i2l C dX5_submit_154 (by omega) ?_
      refine x_iload_n C dX5_submit_155 rfl rfl ?_
      refine x_iconst C dX5_submit_156 ?_
      refine x_icmp_ne (tgt := 174) C dX5_submit_157 (by decide) (by omega) (by omega) (fun c_157 => ?_) (fun c_157 => ?_)
      · exact absurd h3 c_157
      · refine x_aload_n C dX5_submit_160 rfl rfl ?_
        refine x_get C (Cn := RX5) (T := TX5) (N := 9) (ci := 5) 2 dX5_submit_161 m_w_5 m_f_RX5_44 rfl (by decide) rfl rfl ?_
        refine x_iload C dX5_submit_164 rfl ?_
        refine x_aald C 4 (Cn := "LimbKernel$Numeral") dX5_submit_166 rfl rfl (by omega) (by omega) rfl ?_
        try rw [Int.toNat_natCast]
        refine x_get C (Cn := RX2) (T := TX2) (N := 6) (ci := 2) 2 dX5_submit_167 m_w_2 m_f_RX5_110 rfl (by decide) (kc_num (by omega)) rfl ?_
        rw [r1 _ (by omega), nm2]
        refine x_i2l C dX5_submit_170 (by omega) ?_
        refine x_goto (tgt := 175) C dX5_submit_171 (by decide) ?_
        refine x_callV C (ci := 0) (nn := 3) (c_plan hg σ1 j hj1 (sa : Int) (sb : Int) (sm : Int) (by omega) (by omega) (by omega) (by rw [e1]; exact ho)) g_RX5_137 rfl (by decide +kernel) ⟨by first | decide | omega, by first | decide | omega⟩ rfl rfl (kc_job (by omega) (by omega)) rfl rfl (Nat.le_of_ble_eq_true rfl) dX5_submit_175 (fun v h1 hp => ?_)
        obtain ⟨σ2, rfl, rfl, hnd⟩ := hp
        rw [e1] at hnd
        obtain ⟨w1, w2, wo1, wo2, wr, hσ2⟩ := id hnd
        have r2 : ∀ k, k ≠ 40 + j → σ2 k = σ1 k := fun k hk => by rw [hσ2, up_n hk, up_n hk, up_n hk, up_n hk]
        have j2 : ∀ k, k ≠ 6 → k ≠ 7 → k ≠ 9 → k ≠ 10 → σ2 (40 + j) k = σ1 (40 + j) k := fun k h6 h7 h9 h10 => by rw [hσ2, up_s, zup_n h10, up_s, zup_n h9, up_s, zup_n h7, up_s, zup_n h6]
        refine x_aload C dX5_submit_178 rfl ?_
        refine x_iconst C dX5_submit_180 ?_
        refine k_putJ C 0 (by decide) dX5_submit_181 m_f_RX5_141 rfl (by decide +kernel) (by omega) (by omega) ?_
        obtain ⟨σs, hσs⟩ : ∃ σs, σs = up σ2 (40 + j) 0 0 := ⟨_, rfl⟩
        rw [← hσs]
        have js : ∀ k, k ≠ 0 → σs (40 + j) k = σ2 (40 + j) k := fun k hk => by rw [hσs, up_s, zup_n hk]
        have es1 : σs (40 + j) 1 = op := by rw [js 1 (by decide), j2 1 (by decide) (by decide) (by decide) (by decide)]; exact e1
        refine x_aload_n C dX5_submit_184 rfl rfl ?_
        refine x_aload C dX5_submit_185 rfl ?_
        refine x_iconst C dX5_submit_187 ?_
        refine x_callV C (ci := 5) (nn := 2) (c_changePins hg σs j hj1 an bn mn 1 ha.1 hb.1 (by rw [js 2 (by decide), j2 2 (by decide) (by decide) (by decide) (by decide)]; exact e2) (by rw [js 3 (by decide), j2 3 (by decide) (by decide) (by decide) (by decide)]; exact e3) (by rw [es1]; exact ho) (by intro _; rw [js 4 (by decide), j2 4 (by decide) (by decide) (by decide) (by decide)]; exact ⟨hmn, e4⟩)) g_RX5_144 rfl (by decide +kernel) ⟨by first | decide | omega, by first | decide | omega⟩ rfl rfl rfl rfl rfl (Nat.le_of_ble_eq_true rfl) dX5_submit_188 (fun v h1 hp => ?_)
        obtain ⟨σ3, rfl, rfl, hcp⟩ := hp
        rw [es1] at hcp
        have r3 : ∀ k, k = 0 ∨ k = 8 ∨ k = 9 → σ3 k = σ k := fun k hk => by rw [hcp.lo (g := g) (by omega) ha.1 hb.1 (fun _ => hmn) (by omega), hσs, up_n (by omega), r2 k (by omega), r1 k (by omega)]
        have hq3 : Qs g σ3 q := hq.row (r3 8 (by omega)) (r3 9 (by omega))
        refine x_aload_n C dX5_submit_191 rfl rfl ?_
        refine x_get C (Cn := RX5) (T := TX5) (N := 9) (ci := 5) 4 dX5_submit_192 m_w_5 m_f_RX5_52 rfl (by decide) rfl rfl ?_
        refine x_iload C dX5_submit_195 rfl ?_
        refine x_callV C (ci := 3) (nn := 1) (c_append hg σ3 q hq3 hqj (j : Int)) g_RX5_148 rfl (by decide +kernel) ⟨by first | decide | omega, by first | decide | omega⟩ rfl rfl rfl rfl rfl (Nat.le_of_ble_eq_true rfl) dX5_submit_197 (fun v h1 hp => ?_)
        obtain ⟨σ4, rfl, rfl, hq4, hr4⟩ := hp
        refine x_aload_n C dX5_submit_200 rfl rfl ?_
        refine x_dup C dX5_submit_201 rfl ?_
        refine x_get C (Cn := RX5) (T := TX5) (N := 9) (ci := 5) 7 dX5_submit_202 m_w_5 m_f_RX5_60 rfl (by decide) rfl rfl ?_
        refine x_iconst C dX5_submit_205 ?_
        refine x_iadd C dX5_submit_206 ?_
        refine k_putS C (Cn := RX5) (T := TX5) (N := 9) (ci := 5) (ty := .int) 7 dX5_submit_207 m_w_5 m_f_RX5_60 rfl (by decide) tyX5 tyX5_ok nmX5 rfl (by decide +kernel) rfl rfl rfl (Nat.le_of_ble_eq_true rfl) rfl ?_
        refine x_iload C dX5_submit_210 rfl ?_
        refine K _ _ _ _ (Or.inr (Or.inr rfl)) (Or.inr ⟨ho, Or.inr ⟨⟨⟨an, rfl, ha⟩, ⟨bn, rfl, hb⟩, hm⟩, Or.inr ⟨hnz, Or.inr ⟨j, ⟨hj1, hj2, hj3⟩, rfl, ?_⟩⟩⟩⟩)
        exact ⟨an, bn, mn, sa, sb, sm, σ2, σ3, σ4, rfl, rfl, fun _ => ⟨rfl, nm2⟩, fun e => absurd h3 e, na2, nb2, by rw [if_pos h3]; exact hσ1 ▸ hnd, hσs ▸ hcp, ⟨hq4, hr4⟩, rfl⟩
  · refine x_bipush C (z := (-8)) dX5_submit_87 (by decide) ?_
    exact K σ _ _ _ (Or.inr (Or.inl rfl)) (Or.inr ⟨ho, Or.inr ⟨⟨⟨an, rfl, ha⟩, ⟨bn, rfl, hb⟩, hm⟩, Or.inr ⟨hnz, Or.inl ⟨by rcases hl with ⟨-, e⟩ | ⟨k, e, -⟩; exact e; omega, rfl, rfl⟩⟩⟩⟩)
set_option maxHeartbeats 4000000 in
set_option maxRecDepth 100000 in
theorem lp_sbCn {p : Program} {l : Launch} {e : Env} {R : Room} {s : State} {m : MethodId} {args : Array Value} {below : List Frame} {meth : Method} {c : Code} {D : va_G} {ad : Nat → Nat} {g : Nat × Nat × Nat × Nat} {Q : State → Prop} (C : Fx p s m args meth c D ad cX5_submit 7 (some .int) yX5_submit.cls tb) (hg : 3 ≤ g.1 ∧ g.1 ≤ 11 ∧ 8 ≤ g.2.1 ∧ g.2.1 ≤ 2048 ∧ 1 ≤ g.2.2.1 ∧ g.2.2.1 ≤ 24 ∧ 1 ≤ g.2.2.2 ∧ g.2.2.2 ≤ 12) (hR : 3 ≤ R.frames ∧ 180 ≤ R.locals) (σ : St) (hF : FLG g σ) (hS : STT g σ) (hN : NUM g σ) (hL : LM g σ) (q : List Int) (hq : Qs g σ q) (hql : ∀ k, k < g.2.2.2 → σ (40 + k) 0 = -1 → q.length < g.2.2.2) (op mi : Int) (an bn : Nat) (ho : 0 ≤ op ∧ op ≤ 3) (rg_mi : -2147483648 ≤ mi ∧ mi < 2147483648) (ha : an < g.2.2.1 ∧ σ (10 + an) 0 = 1 ∧ σ (10 + an) 1 = 0) (hb : bn < g.2.2.1 ∧ σ (10 + bn) 0 = 1 ∧ σ (10 + bn) 1 = 0) (hm : op = 3 → fin g σ mi) (h3 : op ≠ 3) (hnz : ¬ ((op = 1 ∧ zer σ bn) ∨ (op = 3 ∧ zer σ mi))) (K : ∀ (σ' : St) (r : Int) pc lv, (pc = 74 ∨ pc = 89 ∨ pc = 212) → sbP g σ σ' q op an bn mi r → X p l e R s m args below meth c D ad 7 Q (kc D ad g σ') pc lv [vi r]) : X p l e R s m args below meth c D ad 7 Q (kc D ad g σ) 75 [(0, .ref (ad 0)), (1, vi op), (2, vi (an : Int)), (3, vi (bn : Int)), (4, vi mi)] [] := by
  obtain ⟨Aa, sa, hNa, -⟩ := hN an ha.1 ha.2.1
  obtain ⟨Ab, sb, hNb, -⟩ := hN bn hb.1 hb.2.1
  obtain ⟨na1, na3, na2, naA⟩ := id hNa
  obtain ⟨nb1, nb3, nb2, nbA⟩ := id hNb
  obtain ⟨mn, sm, hsm0⟩ : ∃ mn sm : Nat, sm = 0 := ⟨0, 0, rfl⟩
  refine x_aload_n C dX5_submit_75 rfl rfl ?_
  refine x_callV C (ci := 5) (nn := 0) (c_leastFreeJob hg σ hS) g_RX5_122 rfl (by decide +kernel) ⟨by first | decide | omega, by first | decide | omega⟩ rfl rfl rfl rfl rfl (Nat.le_of_ble_eq_true rfl) dX5_submit_76 (fun v h1 hp => ?_)
  obtain ⟨σ1, rfl, rfl, r, rfl, hl⟩ := hp
  have hlr : -1 ≤ r ∧ r < 12 := by rcases hl with ⟨e, -⟩ | ⟨k, e, e2, -⟩ <;> omega
  dsimp only [Option.toList, List.cons_append, List.nil_append]
  refine x_istore C (lv' := [(5, _), (0, _), (1, _), (2, _), (3, _), (4, _)]) dX5_submit_79 (by decide) rfl ?_
  refine x_iload C dX5_submit_81 rfl ?_
  refine x_iconst C dX5_submit_83 ?_
  refine x_icmp_ne (tgt := 90) C dX5_submit_84 (by decide) (by omega) (by omega) (fun c_84 => ?_) (fun c_84 => ?_)
  · obtain ⟨j, rfl, hj1, hj2, hj3⟩ : ∃ k : Nat, r = k ∧ k < g.2.2.2 ∧ σ (40 + k) 0 = -1 ∧ ∀ i, i < k → ¬ σ (40 + i) 0 = -1 := by
      rcases hl with ⟨e, -⟩ | e
      · exact absurd e c_84
      · exact e
    clear hl
    have hqj := hql j hj1 hj2
    refine x_aload_n C dX5_submit_90 rfl rfl ?_
    refine x_get C (Cn := RX5) (T := TX5) (N := 9) (ci := 5) 3 dX5_submit_91 m_w_5 m_f_RX5_37 rfl (by decide) rfl rfl ?_
    refine x_iload C dX5_submit_94 rfl ?_
    refine x_aald C 3 (Cn := "LimbKernel$Job") dX5_submit_96 rfl rfl (by omega) (by omega) rfl ?_
    try rw [Int.toNat_natCast]
    refine x_astore C (lv' := [(6, _), (5, _), (0, _), (1, _), (2, _), (3, _), (4, _)]) dX5_submit_97 (by decide) rfl ?_
    refine x_aload C dX5_submit_99 rfl ?_
    refine x_iload_n C dX5_submit_101 rfl rfl ?_
    refine k_putJ C 1 (by decide) dX5_submit_102 m_f_RX5_125 rfl (by decide +kernel) (by omega) (by omega) ?_
    refine x_aload C dX5_submit_105 rfl ?_
    refine x_iload_n C dX5_submit_107 rfl rfl ?_
    refine k_putJ C 2 (by decide) dX5_submit_108 m_f_RX5_128 rfl (by decide +kernel) (by omega) (by omega) ?_
    refine x_aload C dX5_submit_111 rfl ?_
    refine x_iload_n C dX5_submit_113 rfl rfl ?_
    refine k_putJ C 3 (by decide) dX5_submit_114 m_f_RX5_131 rfl (by decide +kernel) (by omega) (by omega) ?_
    refine x_aload C dX5_submit_117 rfl ?_
    refine x_iload_n C dX5_submit_119 rfl rfl ?_
    refine x_iconst C dX5_submit_120 ?_
    refine x_icmp_ne (tgt := 129) C dX5_submit_121 (by decide) (by omega) (by omega) (fun c_121 => ?_) (fun c_121 => ?_)
    · refine x_iconst C dX5_submit_129 ?_
      refine k_putJ C 4 (by decide) dX5_submit_130 m_f_RX5_134 rfl (by decide +kernel) (by omega) (by omega) ?_
      obtain ⟨σ1, hσ1⟩ : ∃ σ1, σ1 = (up (up (up (up σ (40 + j) 1 op) (40 + j) 2 (an : Int)) (40 + j) 3 (bn : Int)) (40 + j) 4 (-1)) := ⟨_, rfl⟩
      rw [← hσ1]
      have r1 : ∀ k, k ≠ 40 + j → σ1 k = σ k := fun k hk => by rw [hσ1, up_n hk, up_n hk, up_n hk, up_n hk]
      have e1 : σ1 (40 + j) 1 = op := by rw [hσ1, up_s, zup_n (by decide), up_s, zup_n (by decide), up_s, zup_n (by decide), up_s, zup_s]
      have e2 : σ1 (40 + j) 2 = an := by rw [hσ1, up_s, zup_n (by decide), up_s, zup_n (by decide), up_s, zup_s]
      have e3 : σ1 (40 + j) 3 = bn := by rw [hσ1, up_s, zup_n (by decide), up_s, zup_s]
      have e4 : σ1 (40 + j) 4 = -1 := by rw [hσ1, up_s, zup_s]
      refine x_aload C dX5_submit_133 rfl ?_
      refine x_aload_n C dX5_submit_135 rfl rfl ?_
      refine x_get C (Cn := RX5) (T := TX5) (N := 9) (ci := 5) 2 dX5_submit_136 m_w_5 m_f_RX5_44 rfl (by decide) rfl rfl ?_
      refine x_iload_n C dX5_submit_139 rfl rfl ?_
      refine x_aald C 4 (Cn := "LimbKernel$Numeral") dX5_submit_140 rfl rfl (by omega) (by omega) rfl ?_
      try rw [Int.toNat_natCast]
      refine x_get C (Cn := RX2) (T := TX2) (N := 6) (ci := 2) 2 dX5_submit_141 m_w_2 m_f_RX5_110 rfl (by decide) (kc_num (by omega)) rfl ?_
      rw [r1 _ (by omega), na2]
      refine x_i2l C dX5_submit_144 (by omega) ?_
      refine x_aload_n C dX5_submit_145 rfl rfl ?_
      refine x_get C (Cn := RX5) (T := TX5) (N := 9) (ci := 5) 2 dX5_submit_146 m_w_5 m_f_RX5_44 rfl (by decide) rfl rfl ?_
      refine x_iload_n C dX5_submit_149 rfl rfl ?_
      refine x_aald C 4 (Cn := "LimbKernel$Numeral") dX5_submit_150 rfl rfl (by omega) (by omega) rfl ?_
      try rw [Int.toNat_natCast]
      refine x_get C (Cn := RX2) (T := TX2) (N := 6) (ci := 2) 2 dX5_submit_151 m_w_2 m_f_RX5_110 rfl (by decide) (kc_num (by omega)) rfl ?_
      rw [r1 _ (by omega), nb2]
      refine x_i2l C dX5_submit_154 (by omega) ?_
      refine x_iload_n C dX5_submit_155 rfl rfl ?_
      refine x_iconst C dX5_submit_156 ?_
      refine x_icmp_ne (tgt := 174) C dX5_submit_157 (by decide) (by omega) (by omega) (fun c_157 => ?_) (fun c_157 => ?_)
      · refine x_lconst0 C dX5_submit_174 ?_
        refine x_callV C (ci := 0) (nn := 3) (c_plan hg σ1 j hj1 (sa : Int) (sb : Int) 0 (by omega) (by omega) (by omega) (by rw [e1]; exact ho)) g_RX5_137 rfl (by decide +kernel) ⟨by first | decide | omega, by first | decide | omega⟩ rfl rfl (kc_job (by omega) (by omega)) rfl rfl (Nat.le_of_ble_eq_true rfl) dX5_submit_175 (fun v h1 hp => ?_)
        obtain ⟨σ2, rfl, rfl, hnd⟩ := hp
        rw [e1] at hnd
        obtain ⟨w1, w2, wo1, wo2, wr, hσ2⟩ := id hnd
        have r2 : ∀ k, k ≠ 40 + j → σ2 k = σ1 k := fun k hk => by rw [hσ2, up_n hk, up_n hk, up_n hk, up_n hk]
        have j2 : ∀ k, k ≠ 6 → k ≠ 7 → k ≠ 9 → k ≠ 10 → σ2 (40 + j) k = σ1 (40 + j) k := fun k h6 h7 h9 h10 => by rw [hσ2, up_s, zup_n h10, up_s, zup_n h9, up_s, zup_n h7, up_s, zup_n h6]
        refine x_aload C dX5_submit_178 rfl ?_
        refine x_iconst C dX5_submit_180 ?_
        refine k_putJ C 0 (by decide) dX5_submit_181 m_f_RX5_141 rfl (by decide +kernel) (by omega) (by omega) ?_
        obtain ⟨σs, hσs⟩ : ∃ σs, σs = up σ2 (40 + j) 0 0 := ⟨_, rfl⟩
        rw [← hσs]
        have js : ∀ k, k ≠ 0 → σs (40 + j) k = σ2 (40 + j) k := fun k hk => by rw [hσs, up_s, zup_n hk]
        have es1 : σs (40 + j) 1 = op := by rw [js 1 (by decide), j2 1 (by decide) (by decide) (by decide) (by decide)]; exact e1
        refine x_aload_n C dX5_submit_184 rfl rfl ?_
        refine x_aload C dX5_submit_185 rfl ?_
        refine x_iconst C dX5_submit_187 ?_
        refine x_callV C (ci := 5) (nn := 2) (c_changePins hg σs j hj1 an bn mn 1 ha.1 hb.1 (by rw [js 2 (by decide), j2 2 (by decide) (by decide) (by decide) (by decide)]; exact e2) (by rw [js 3 (by decide), j2 3 (by decide) (by decide) (by decide) (by decide)]; exact e3) (by rw [es1]; exact ho) (by rw [es1]; exact fun e => absurd e h3)) g_RX5_144 rfl (by decide +kernel) ⟨by first | decide | omega, by first | decide | omega⟩ rfl rfl rfl rfl rfl (Nat.le_of_ble_eq_true rfl) dX5_submit_188 (fun v h1 hp => ?_)
        obtain ⟨σ3, rfl, rfl, hcp⟩ := hp
        rw [es1] at hcp
        have r3 : ∀ k, k = 0 ∨ k = 8 ∨ k = 9 → σ3 k = σ k := fun k hk => by rw [hcp.lo (g := g) (by omega) ha.1 hb.1 (fun e => absurd e h3) (by omega), hσs, up_n (by omega), r2 k (by omega), r1 k (by omega)]
        have hq3 : Qs g σ3 q := hq.row (r3 8 (by omega)) (r3 9 (by omega))
        refine x_aload_n C dX5_submit_191 rfl rfl ?_
        refine x_get C (Cn := RX5) (T := TX5) (N := 9) (ci := 5) 4 dX5_submit_192 m_w_5 m_f_RX5_52 rfl (by decide) rfl rfl ?_
        refine x_iload C dX5_submit_195 rfl ?_
        refine x_callV C (ci := 3) (nn := 1) (c_append hg σ3 q hq3 hqj (j : Int)) g_RX5_148 rfl (by decide +kernel) ⟨by first | decide | omega, by first | decide | omega⟩ rfl rfl rfl rfl rfl (Nat.le_of_ble_eq_true rfl) dX5_submit_197 (fun v h1 hp => ?_)
        obtain ⟨σ4, rfl, rfl, hq4, hr4⟩ := hp
        refine x_aload_n C dX5_submit_200 rfl rfl ?_
        refine x_dup C dX5_submit_201 rfl ?_
        refine x_get C (Cn := RX5) (T := TX5) (N := 9) (ci := 5) 7 dX5_submit_202 m_w_5 m_f_RX5_60 rfl (by decide) rfl rfl ?_
        refine x_iconst C dX5_submit_205 ?_
        refine x_iadd C dX5_submit_206 ?_
        refine k_putS C (Cn := RX5) (T := TX5) (N := 9) (ci := 5) (ty := .int) 7 dX5_submit_207 m_w_5 m_f_RX5_60 rfl (by decide) tyX5 tyX5_ok nmX5 rfl (by decide +kernel) rfl rfl rfl (Nat.le_of_ble_eq_true rfl) rfl ?_
        refine x_iload C dX5_submit_210 rfl ?_
        refine K _ _ _ _ (Or.inr (Or.inr rfl)) (Or.inr ⟨ho, Or.inr ⟨⟨⟨an, rfl, ha⟩, ⟨bn, rfl, hb⟩, hm⟩, Or.inr ⟨hnz, Or.inr ⟨j, ⟨hj1, hj2, hj3⟩, rfl, ?_⟩⟩⟩⟩)
        exact ⟨an, bn, mn, sa, sb, 0, σ2, σ3, σ4, rfl, rfl, fun e => absurd e h3, fun _ => rfl, na2, nb2, by rw [if_neg h3]; exact hσ1 ▸ hnd, hσs ▸ hcp, ⟨hq4, hr4⟩, rfl⟩
      · exact absurd c_157 h3
    · exact absurd c_121 h3
  · refine x_bipush C (z := (-8)) dX5_submit_87 (by decide) ?_
    exact K σ _ _ _ (Or.inr (Or.inl rfl)) (Or.inr ⟨ho, Or.inr ⟨⟨⟨an, rfl, ha⟩, ⟨bn, rfl, hb⟩, hm⟩, Or.inr ⟨hnz, Or.inl ⟨by rcases hl with ⟨-, e⟩ | ⟨k, e, -⟩; exact e; omega, rfl, rfl⟩⟩⟩⟩)
set_option maxHeartbeats 4000000 in
set_option maxRecDepth 100000 in
theorem lp_sbB {p : Program} {l : Launch} {e : Env} {R : Room} {s : State} {m : MethodId} {args : Array Value} {below : List Frame} {meth : Method} {c : Code} {D : va_G} {ad : Nat → Nat} {g : Nat × Nat × Nat × Nat} {Q : State → Prop} (C : Fx p s m args meth c D ad cX5_submit 7 (some .int) yX5_submit.cls tb) (hg : 3 ≤ g.1 ∧ g.1 ≤ 11 ∧ 8 ≤ g.2.1 ∧ g.2.1 ≤ 2048 ∧ 1 ≤ g.2.2.1 ∧ g.2.2.1 ≤ 24 ∧ 1 ≤ g.2.2.2 ∧ g.2.2.2 ≤ 12) (hR : 3 ≤ R.frames ∧ 180 ≤ R.locals) (σ : St) (hF : FLG g σ) (hS : STT g σ) (hN : NUM g σ) (hL : LM g σ) (q : List Int) (hq : Qs g σ q) (hql : ∀ k, k < g.2.2.2 → σ (40 + k) 0 = -1 → q.length < g.2.2.2) (op mi : Int) (an bn : Nat) (ho : 0 ≤ op ∧ op ≤ 3) (rg_mi : -2147483648 ≤ mi ∧ mi < 2147483648) (ha : an < g.2.2.1 ∧ σ (10 + an) 0 = 1 ∧ σ (10 + an) 1 = 0) (hb : bn < g.2.2.1 ∧ σ (10 + bn) 0 = 1 ∧ σ (10 + bn) 1 = 0) (hm : op = 3 → fin g σ mi) (hz1 : op = 1 → ¬ zer σ bn) (K : ∀ (σ' : St) (r : Int) pc lv, (pc = 74 ∨ pc = 89 ∨ pc = 212) → sbP g σ σ' q op an bn mi r → X p l e R s m args below meth c D ad 7 Q (kc D ad g σ') pc lv [vi r]) : X p l e R s m args below meth c D ad 7 Q (kc D ad g σ) 58 [(0, .ref (ad 0)), (1, vi op), (2, vi (an : Int)), (3, vi (bn : Int)), (4, vi mi)] [] := by
  refine x_iload_n C dX5_submit_58 rfl rfl ?_
  refine x_iconst C dX5_submit_59 ?_
  refine x_icmp_ne (tgt := 75) C dX5_submit_60 (by decide) (by omega) (by omega) (fun c_60 => ?_) (fun c_60 => ?_)
  · exact lp_sbCn C hg hR σ hF hS hN hL q hq hql op mi an bn ho rg_mi ha hb hm c_60 (by rintro (⟨e, z⟩ | ⟨e, z⟩); exact hz1 e z; exact c_60 e) K
  · obtain ⟨mn, rfl, hmn, hmu, hmf⟩ := hm c_60
    obtain ⟨Am, sm, hNm, -⟩ := hN mn hmn hmu
    refine x_aload_n C dX5_submit_63 rfl rfl ?_
    refine x_iload C dX5_submit_64 rfl ?_
    refine x_callV C (ci := 5) (nn := 1) (c_isZero hg σ hL mn Am sm hNm) g_RX5_119 rfl (by decide +kernel) ⟨by first | decide | omega, by first | decide | omega⟩ rfl rfl rfl rfl rfl (Nat.le_of_ble_eq_true rfl) dX5_submit_66 (fun v h1 hp => ?_)
    obtain ⟨σ1, rfl, rfl, x, r, rfl, hsg, hx⟩ := hp
    have hxr : x = 0 ∨ x = 1 := by rcases hx with ⟨e, -⟩ | ⟨e, -⟩ <;> omega
    dsimp only [Option.toList, List.cons_append, List.nil_append]
    refine x_if_eq (tgt := 75) C dX5_submit_69 (by decide) (by omega) (fun c_69 => ?_) (fun c_69 => ?_)
    · refine lp_sbC3 C hg hR σ hF hS hN hL q hq hql op (mn : Int) an bn ho rg_mi ha hb hm c_60 ?_ K
      rintro (⟨e, z⟩ | ⟨e, z⟩)
      · exact hz1 e z
      · obtain ⟨A, n, z1, z2, z3⟩ := z
        rw [Int.toNat_natCast, hNm.2.1] at z1
        rw [Int.toNat_natCast, hNm.2.2.1] at z2
        obtain rfl : Am = A := by omega
        obtain rfl : sm = n := by omega
        have := sg_u hsg z3
        rcases hx with ⟨e1, -⟩ | ⟨-, e1⟩ <;> omega
    · refine x_bipush C (z := (-7)) dX5_submit_72 (by decide) ?_
      have hr0 : r = 0 := by rcases hx with ⟨-, e⟩ | ⟨e, -⟩; exact e; exact absurd e c_69
      subst hr0
      exact K σ _ _ _ (Or.inl rfl) (Or.inr ⟨ho, Or.inr ⟨⟨⟨an, rfl, ha⟩, ⟨bn, rfl, hb⟩, hm⟩, Or.inl ⟨Or.inr ⟨c_60, Am, sm, by rw [Int.toNat_natCast]; exact hNm.2.1, by rw [Int.toNat_natCast]; exact hNm.2.2.1, hsg⟩, rfl, rfl⟩⟩⟩)
set_option maxHeartbeats 4000000 in
set_option maxRecDepth 100000 in
theorem lp_sbA {p : Program} {l : Launch} {e : Env} {R : Room} {s : State} {m : MethodId} {args : Array Value} {below : List Frame} {meth : Method} {c : Code} {D : va_G} {ad : Nat → Nat} {g : Nat × Nat × Nat × Nat} {Q : State → Prop} (C : Fx p s m args meth c D ad cX5_submit 7 (some .int) yX5_submit.cls tb) (hg : 3 ≤ g.1 ∧ g.1 ≤ 11 ∧ 8 ≤ g.2.1 ∧ g.2.1 ≤ 2048 ∧ 1 ≤ g.2.2.1 ∧ g.2.2.1 ≤ 24 ∧ 1 ≤ g.2.2.2 ∧ g.2.2.2 ≤ 12) (hR : 3 ≤ R.frames ∧ 180 ≤ R.locals) (σ : St) (hF : FLG g σ) (hS : STT g σ) (hN : NUM g σ) (hL : LM g σ) (q : List Int) (hq : Qs g σ q) (hql : ∀ k, k < g.2.2.2 → σ (40 + k) 0 = -1 → q.length < g.2.2.2) (op mi : Int) (an bn : Nat) (ho : 0 ≤ op ∧ op ≤ 3) (rg_mi : -2147483648 ≤ mi ∧ mi < 2147483648) (ha : an < g.2.2.1 ∧ σ (10 + an) 0 = 1 ∧ σ (10 + an) 1 = 0) (hb : bn < g.2.2.1 ∧ σ (10 + bn) 0 = 1 ∧ σ (10 + bn) 1 = 0) (hm : op = 3 → fin g σ mi) (K : ∀ (σ' : St) (r : Int) pc lv, (pc = 74 ∨ pc = 89 ∨ pc = 212) → sbP g σ σ' q op an bn mi r → X p l e R s m args below meth c D ad 7 Q (kc D ad g σ') pc lv [vi r]) : X p l e R s m args below meth c D ad 7 Q (kc D ad g σ) 45 [(0, .ref (ad 0)), (1, vi op), (2, vi (an : Int)), (3, vi (bn : Int)), (4, vi mi)] [] := by
  refine x_iload_n C dX5_submit_45 rfl rfl ?_
  refine x_iconst C dX5_submit_46 ?_
  refine x_icmp_ne (tgt := 58) C dX5_submit_47 (by decide) (by omega) (by omega) (fun c_47 => ?_) (fun c_47 => ?_)
  · exact lp_sbB C hg hR σ hF hS hN hL q hq hql op mi an bn ho rg_mi ha hb hm (fun e => absurd e c_47) K
  · refine x_aload_n C dX5_submit_50 rfl rfl ?_
    refine x_iload_n C dX5_submit_51 rfl rfl ?_
    obtain ⟨Ab, sb, hNb, -⟩ := hN bn hb.1 hb.2.1
    refine x_callV C (ci := 5) (nn := 1) (c_isZero hg σ hL bn Ab sb hNb) g_RX5_119 rfl (by decide +kernel) ⟨by first | decide | omega, by first | decide | omega⟩ rfl rfl rfl rfl rfl (Nat.le_of_ble_eq_true rfl) dX5_submit_52 (fun v h1 hp => ?_)
    obtain ⟨σ1, rfl, rfl, x, r, rfl, hsg, hx⟩ := hp
    have hxr : x = 0 ∨ x = 1 := by rcases hx with ⟨e, -⟩ | ⟨e, -⟩ <;> omega
    dsimp only [Option.toList, List.cons_append, List.nil_append]
    refine x_if_ne (tgt := 72) C dX5_submit_55 (by decide) (by omega) (fun c_55 => ?_) (fun c_55 => ?_)
    · refine x_bipush C (z := (-7)) dX5_submit_72 (by decide) ?_
      have hr0 : r = 0 := by rcases hx with ⟨-, e⟩ | ⟨e, -⟩; exact e; exact absurd e c_55
      subst hr0
      exact K σ _ _ _ (Or.inl rfl) (Or.inr ⟨ho, Or.inr ⟨⟨⟨an, rfl, ha⟩, ⟨bn, rfl, hb⟩, hm⟩, Or.inl ⟨Or.inl ⟨c_47, Ab, sb, by rw [Int.toNat_natCast]; exact hNb.2.1, by rw [Int.toNat_natCast]; exact hNb.2.2.1, hsg⟩, rfl, rfl⟩⟩⟩)
    · refine lp_sbB C hg hR σ hF hS hN hL q hq hql op mi an bn ho rg_mi ha hb hm (fun _ z => ?_) K
      obtain ⟨A, n, z1, z2, z3⟩ := z
      rw [Int.toNat_natCast, hNb.2.1] at z1
      rw [Int.toNat_natCast, hNb.2.2.1] at z2
      obtain rfl : Ab = A := by omega
      obtain rfl : sb = n := by omega
      have := sg_u hsg z3
      rcases hx with ⟨e1, -⟩ | ⟨-, e1⟩ <;> omega
set_option maxHeartbeats 4000000 in
set_option maxRecDepth 100000 in
theorem c_submit {l : Launch} {D : va_G} {ad : Nat → Nat} {g : Nat × Nat × Nat × Nat} (hg : 3 ≤ g.1 ∧ g.1 ≤ 11 ∧ 8 ≤ g.2.1 ∧ g.2.1 ≤ 2048 ∧ 1 ≤ g.2.2.1 ∧ g.2.2.1 ≤ 24 ∧ 1 ≤ g.2.2.2 ∧ g.2.2.2 ≤ 12) (σ : St) (hF : FLG g σ) (hS : STT g σ) (hN : NUM g σ) (hL : LM g σ) (q : List Int) (hq : Qs g σ q) (hql : ∀ k, k < g.2.2.2 → σ (40 + k) 0 = -1 → q.length < g.2.2.2) (op a b mi : Int) (rg_op : -2147483648 ≤ op ∧ op < 2147483648) (rg_a : -2147483648 ≤ a ∧ a < 2147483648) (rg_b : -2147483648 ≤ b ∧ b < 2147483648) (rg_mi : -2147483648 ≤ mi ∧ mi < 2147483648) : Kt l D ad g yX5_submit (Cond.code yX5_submit cX5_submit 7 (some .int) :: tb) 3 180 [.ref (ad 0), vi op, vi a, vi b, vi mi] σ (fun v σ' => ∃ r : Int, v = some (vi r) ∧ sbP g σ σ' q op a b mi r) := by
  refine ct_of (by decide) rfl (Nat.le_of_ble_eq_true rfl) ?_
  intro p e s m below meth c C
  change X _ _ _ _ _ _ _ _ _ _ _ _ _ _ _ _ [(0, .ref (ad 0)), (1, vi op), (2, vi a), (3, vi b), (4, vi mi)] _
  refine x_iload_n C dX5_submit_0 rfl rfl ?_
  refine x_if_lt (tgt := 9) C dX5_submit_1 (by decide) (by omega) (fun c_1 => ?_) (fun c_1 => ?_)
  · refine x_bipush C (z := (-5)) dX5_submit_9 (by decide) ?_
    exact x_iret C dX5_submit_11 ⟨_, rfl, _, rfl, Or.inl ⟨by omega, rfl, rfl⟩⟩
  · refine x_iload_n C dX5_submit_4 rfl rfl ?_
    refine x_iconst C dX5_submit_5 ?_
    refine x_icmp_le (tgt := 12) C dX5_submit_6 (by decide) (by omega) (by omega) (fun c_6 => ?_) (fun c_6 => ?_)
    · refine x_aload_n C dX5_submit_12 rfl rfl ?_
      refine x_iload_n C dX5_submit_13 rfl rfl ?_
      refine x_callV C (ci := 5) (nn := 1) (c_isFinished hg σ hF a rg_a) g_RX5_107 rfl (by decide +kernel) ⟨by first | decide | omega, by first | decide | omega⟩ rfl rfl rfl rfl rfl (Nat.le_of_ble_eq_true rfl) dX5_submit_14 (fun v h1 hp => ?_)
      obtain ⟨σ1, rfl, rfl, x, rfl, hxa⟩ := hp
      have hxar := hxa.rg
      dsimp only [Option.toList, List.cons_append, List.nil_append]
      refine x_if_eq (tgt := 42) C dX5_submit_17 (by decide) (by omega) (fun c_17 => ?_) (fun c_17 => ?_)
      · refine x_bipush C (z := (-6)) dX5_submit_42 (by decide) ?_
        exact x_iret C dX5_submit_44 ⟨_, rfl, _, rfl, Or.inr ⟨by omega, Or.inl ⟨fun z => hxa.neg c_17 z.1, rfl, rfl⟩⟩⟩
      · refine x_aload_n C dX5_submit_20 rfl rfl ?_
        refine x_iload_n C dX5_submit_21 rfl rfl ?_
        refine x_callV C (ci := 5) (nn := 1) (c_isFinished hg σ hF b rg_b) g_RX5_107 rfl (by decide +kernel) ⟨by first | decide | omega, by first | decide | omega⟩ rfl rfl rfl rfl rfl (Nat.le_of_ble_eq_true rfl) dX5_submit_22 (fun v h1 hp => ?_)
        obtain ⟨σ1, rfl, rfl, x, rfl, hxb⟩ := hp
        have hxbr := hxb.rg
        dsimp only [Option.toList, List.cons_append, List.nil_append]
        refine x_if_eq (tgt := 42) C dX5_submit_25 (by decide) (by omega) (fun c_25 => ?_) (fun c_25 => ?_)
        · refine x_bipush C (z := (-6)) dX5_submit_42 (by decide) ?_
          exact x_iret C dX5_submit_44 ⟨_, rfl, _, rfl, Or.inr ⟨by omega, Or.inl ⟨fun z => hxb.neg c_25 z.2.1, rfl, rfl⟩⟩⟩
        · obtain ⟨an, rfl, ha⟩ := hxa.yes c_17
          obtain ⟨bn, rfl, hb⟩ := hxb.yes c_25
          refine x_iload_n C dX5_submit_28 rfl rfl ?_
          refine x_iconst C dX5_submit_29 ?_
          refine x_icmp_ne (tgt := 45) C dX5_submit_30 (by decide) (by omega) (by omega) (fun c_30 => ?_) (fun c_30 => ?_)
          · refine lp_sbA C hg ⟨by decide, by decide⟩ σ hF hS hN hL q hq hql op mi an bn (by omega) rg_mi ha hb (fun e => absurd e c_30) ?_
            intro σ' r pc lv hpc hp
            rcases hpc with rfl | rfl | rfl
            · exact x_iret C dX5_submit_74 ⟨_, rfl, _, rfl, hp⟩
            · exact x_iret C dX5_submit_89 ⟨_, rfl, _, rfl, hp⟩
            · exact x_iret C dX5_submit_212 ⟨_, rfl, _, rfl, hp⟩
          · refine x_aload_n C dX5_submit_33 rfl rfl ?_
            refine x_iload C dX5_submit_34 rfl ?_
            refine x_callV C (ci := 5) (nn := 1) (c_isFinished hg σ hF mi rg_mi) g_RX5_107 rfl (by decide +kernel) ⟨by first | decide | omega, by first | decide | omega⟩ rfl rfl rfl rfl rfl (Nat.le_of_ble_eq_true rfl) dX5_submit_36 (fun v h1 hp => ?_)
            obtain ⟨σ1, rfl, rfl, x, rfl, hxm⟩ := hp
            have hxmr := hxm.rg
            dsimp only [Option.toList, List.cons_append, List.nil_append]
            refine x_if_ne (tgt := 45) C dX5_submit_39 (by decide) (by omega) (fun c_39 => ?_) (fun c_39 => ?_)
            · obtain ⟨mn, rfl, hmn⟩ := hxm.yes c_39
              refine lp_sbA C hg ⟨by decide, by decide⟩ σ hF hS hN hL q hq hql op (mn : Int) an bn (by omega) rg_mi ha hb (fun _ => ⟨mn, rfl, hmn⟩) ?_
              intro σ' r pc lv hpc hp
              rcases hpc with rfl | rfl | rfl
              · exact x_iret C dX5_submit_74 ⟨_, rfl, _, rfl, hp⟩
              · exact x_iret C dX5_submit_89 ⟨_, rfl, _, rfl, hp⟩
              · exact x_iret C dX5_submit_212 ⟨_, rfl, _, rfl, hp⟩
            · refine x_bipush C (z := (-6)) dX5_submit_42 (by decide) ?_
              exact x_iret C dX5_submit_44 ⟨_, rfl, _, rfl, Or.inr ⟨by omega, Or.inl ⟨fun z => hxm.neg c_39 (z.2.2 c_30), rfl, rfl⟩⟩⟩
    · refine x_bipush C (z := (-5)) dX5_submit_9 (by decide) ?_
      exact x_iret C dX5_submit_11 ⟨_, rfl, _, rfl, Or.inl ⟨by omega, rfl, rfl⟩⟩
