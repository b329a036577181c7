/-- what the loop keeps: the power so far -/
def PW (g : Nat × Nat × Nat × Nat) (σ σ1 : St) (pw bs ar r : Nat) (A D : Int) (e : Nat) : Prop := LM g σ1 ∧ (∀ q, q ≠ 2 → σ1 q = σ q) ∧ (∀ q, ¬ (ar ≤ q ∧ q < ar + 2 * r + 1) → ¬ (pw ≤ q ∧ q < pw + r) → σ1 2 q = σ 2 q) ∧ nv (σ1 2) pw r = A ^ e % D
theorem bit_s (E i : Nat) : E / 2 ^ i = 2 * (E / 2 ^ (i + 1)) + E / 2 ^ i % 2 := by
  rw [Nat.pow_succ, ← Nat.div_div_eq_div_mul]; omega
set_option maxHeartbeats 4000000 in
set_option maxRecDepth 100000 in
theorem lp_pmB {p : Program} {l : Launch} {e : Env} {R : Room} {s : State} {m : MethodId} {args : Array Value} {below : List Frame} {meth : Method} {c : Code} {D : va_G} {ad : Nat → Nat} {g : Nat × Nat × Nat × Nat} {Q : State → Prop} (C : Fx p s m args meth c D ad cX4_powerModulo 11 none yX4_powerModulo.cls tb) (hg : 3 ≤ g.1 ∧ g.1 ≤ 11 ∧ 8 ≤ g.2.1 ∧ g.2.1 ≤ 2048 ∧ 1 ≤ g.2.2.1 ∧ g.2.2.1 ≤ 24 ∧ 1 ≤ g.2.2.2 ∧ g.2.2.2 ≤ 12) (hR : 3 ≤ R.frames ∧ 140 ≤ R.locals) (σ : St) (hL : LM g σ) (a r : Nat) (hD : DVS g σ a r) (hb Ab nb pw bs ar : Nat) (hnb : NM g σ hb Ab nb) (hpw : pw + r ≤ g.2.1) (hbs : bs + r ≤ g.2.1) (har : ar + 2 * r + 1 ≤ g.2.1) (d1 : pw + r ≤ ar ∨ ar + 2 * r + 1 ≤ pw) (d2 : bs + r ≤ ar ∨ ar + 2 * r + 1 ≤ bs) (d3 : a + r ≤ ar ∨ ar + 2 * r + 1 ≤ a) (d4 : a + r ≤ pw ∨ pw + r ≤ a) (d5 : bs + r ≤ pw ∨ pw + r ≤ bs) (d6 : Ab + nb ≤ ar ∨ ar + 2 * r + 1 ≤ Ab) (d7 : Ab + nb ≤ pw ∨ pw + r ≤ Ab) (A : Int) (hBs : nv (σ 2) bs r = A % nv (σ 2) a r) (q1 q3 q4 : Nat) (q5 : Int) (i : Nat) (hi : i < 31 * nb) (bg : Int) (hbg : bg = 0 ∨ bg = 1) (hbe : bg = 0 → (nv (σ 2) Ab nb).toNat / 2 ^ (i + 1) = 0) (K : ∀ (σ' : St) (bg' : Int), (bg' = 0 ∨ bg' = 1) → (bg' = 0 → (nv (σ 2) Ab nb).toNat / 2 ^ i = 0) → PW g σ σ' pw bs ar r A (nv (σ 2) a r) ((nv (σ 2) Ab nb).toNat / 2 ^ i) → X p l e R s m args below meth c D ad 11 Q (kc D ad g σ') 82 [(10, vi ((i : Int) - 1)), (9, vi bg'), (8, vi (pw : Int)), (7, vi (ar : Int)), (6, vi (bs : Int)), (0, .ref (ad 5)), (1, .ref q1), (2, .ref (ad (10 + hb))), (3, .ref q3), (4, .ref q4), (5, vi q5)] []) (σ1 : St) (hP : PW g σ σ1 pw bs ar r A (nv (σ 2) a r) (2 * ((nv (σ 2) Ab nb).toNat / 2 ^ (i + 1)))) : X p l e R s m args below meth c D ad 11 Q (kc D ad g σ1) 102 [(10, vi (i : Int)), (9, vi bg), (8, vi (pw : Int)), (7, vi (ar : Int)), (6, vi (bs : Int)), (0, .ref (ad 5)), (1, .ref q1), (2, .ref (ad (10 + hb))), (3, .ref q3), (4, .ref q4), (5, vi q5)] [] := by
  obtain ⟨hL1, hr1, hf1, hv1⟩ := hP
  have hnb1 := hnb.keep (hr1 (10 + hb) (by have := hnb.1; omega))
  have hnn := hnb.1
  have hnb2 := hnb.2.2.2
  have hlb := hL.lim hnb2
  have ebit := nv_bit hlb hi
  have es := bit_s (nv (σ 2) Ab nb).toNat i
  have e0 : σ1 2 (Ab + i / 31) = σ 2 (Ab + i / 31) := hf1 _ (by omega) (by omega)
  have hDV1 : DVS g σ1 a r := hD.keep (hr1 5 (by decide)) (fun q h1 h2 => hf1 q (by omega) (by omega))
  have hA1 : nv (σ1 2) a r = nv (σ 2) a r := nv_ext (fun i hi => hf1 _ (by omega) (by omega))
  have hB1 : nv (σ1 2) bs r = nv (σ 2) bs r := nv_ext (fun i hi => hf1 _ (by omega) (by omega))
  have hm0 := Int.emod_nonneg (σ 2 (Ab + i / 31) / 2 ^ (i % 31)) (show (2 : Int) ≠ 0 by decide)
  have hm1 := Int.emod_lt_of_pos (σ 2 (Ab + i / 31) / 2 ^ (i % 31)) (show (0 : Int) < 2 by decide)
  refine x_aload_n C dX4_powerModulo_102 rfl rfl ?_
  refine x_aload_n C dX4_powerModulo_103 rfl rfl ?_
  refine x_get C (Cn := RX2) (T := TX2) (N := 6) (ci := 2) 3 dX4_powerModulo_104 m_w_2 m_f_RX4_17 rfl (by decide) (kc_num (by omega)) rfl ?_
  rw [hnb1.2.1]
  refine x_iload C dX4_powerModulo_107 rfl ?_
  refine x_callV C (ci := 4) (nn := 2) (c_hasBit hg σ1 hL1 Ab nb i hi hnb2) g_RX4_66 rfl (by decide +kernel) ⟨by first | decide | omega, by first | decide | omega⟩ rfl rfl rfl rfl rfl (Nat.le_of_ble_eq_true rfl) dX4_powerModulo_109 (fun v h1 hp => ?_)
  obtain ⟨σ2, rfl, rfl, rfl⟩ := hp
  dsimp only [Option.toList, List.cons_append, List.nil_append]
  rw [e0]
  refine x_if_eq (tgt := 128) C dX4_powerModulo_112 (by decide) (by omega) (fun c_112 => ?_) (fun c_112 => ?_)
  · refine x_iinc C (lv' := [(10, _), (9, _), (8, _), (7, _), (6, _), (0, _), (1, _), (2, _), (3, _), (4, _), (5, _)]) dX4_powerModulo_128 rfl (by decide) rfl ?_
    refine x_goto (tgt := 82) C dX4_powerModulo_131 (by decide) ?_
    rw [show (i : Int) + -1 = (i : Int) - 1 by omega]
    first
    | exact K σ2 1 (Or.inr rfl) (fun q => by omega) ⟨hL2, fun q hq => by rw [hr2 q hq]; exact hr1 q hq, fun q h1 h2 => by rw [hf2 q h1 h2]; exact hf1 q h1 h2, by rw [hv2]; congr 2; omega⟩
    | exact K σ1 bg hbg (fun q => by have := hbe q; omega) ⟨hL1, hr1, hf1, by rw [hv1]; congr 2; omega⟩
  · refine x_aload_n C dX4_powerModulo_115 rfl rfl ?_
    refine x_iload C dX4_powerModulo_116 rfl ?_
    refine x_iload C dX4_powerModulo_118 rfl ?_
    refine x_iload C dX4_powerModulo_120 rfl ?_
    refine x_callV C (ci := 4) (nn := 3) (c_multiplyModulo hg σ1 hL1 a r hDV1 pw bs ar hpw hbs har d1 d2 d3 d4) g_RX4_63 rfl (by decide +kernel) ⟨by first | decide | omega, by first | decide | omega⟩ rfl rfl rfl rfl rfl (Nat.le_of_ble_eq_true rfl) dX4_powerModulo_122 (fun v h1 hp => ?_)
    obtain ⟨σ2, rfl, rfl, hL2, hr2, hf2, hv2⟩ := hp
    rw [hv1, hB1, hBs, hA1, pow_1] at hv2
    refine x_iconst C dX4_powerModulo_125 ?_
    refine x_istore C (lv' := [(9, _), (10, _), (8, _), (7, _), (6, _), (0, _), (1, _), (2, _), (3, _), (4, _), (5, _)]) dX4_powerModulo_126 (by decide) rfl ?_
    refine x_iinc C (lv' := [(10, _), (9, _), (8, _), (7, _), (6, _), (0, _), (1, _), (2, _), (3, _), (4, _), (5, _)]) dX4_powerModulo_128 rfl (by decide) rfl ?_
    refine x_goto (tgt := 82) C dX4_powerModulo_131 (by decide) ?_
    rw [show (i : Int) + -1 = (i : Int) - 1 by omega]
    first
    | exact K σ2 1 (Or.inr rfl) (fun q => by omega) ⟨hL2, fun q hq => by rw [hr2 q hq]; exact hr1 q hq, fun q h1 h2 => by rw [hf2 q h1 h2]; exact hf1 q h1 h2, by rw [hv2]; congr 2; omega⟩
    | exact K σ1 bg hbg (fun q => by have := hbe q; omega) ⟨hL1, hr1, hf1, by rw [hv1]; congr 2; omega⟩
set_option maxHeartbeats 4000000 in
set_option maxRecDepth 100000 in
theorem lp_pm {p : Program} {l : Launch} {e : Env} {R : Room} {s : State} {m : MethodId} {args : Array Value} {below : List Frame} {meth : Method} {c : Code} {D : va_G} {ad : Nat → Nat} {g : Nat × Nat × Nat × Nat} {Q : State → Prop} (C : Fx p s m args meth c D ad cX4_powerModulo 11 none yX4_powerModulo.cls tb) (hg : 3 ≤ g.1 ∧ g.1 ≤ 11 ∧ 8 ≤ g.2.1 ∧ g.2.1 ≤ 2048 ∧ 1 ≤ g.2.2.1 ∧ g.2.2.1 ≤ 24 ∧ 1 ≤ g.2.2.2 ∧ g.2.2.2 ≤ 12) (hR : 3 ≤ R.frames ∧ 140 ≤ R.locals) (σ : St) (hL : LM g σ) (a r : Nat) (hD : DVS g σ a r) (hb Ab nb pw bs ar : Nat) (hnb : NM g σ hb Ab nb) (hpw : pw + r ≤ g.2.1) (hbs : bs + r ≤ g.2.1) (har : ar + 2 * r + 1 ≤ g.2.1) (d1 : pw + r ≤ ar ∨ ar + 2 * r + 1 ≤ pw) (d2 : bs + r ≤ ar ∨ ar + 2 * r + 1 ≤ bs) (d3 : a + r ≤ ar ∨ ar + 2 * r + 1 ≤ a) (d4 : a + r ≤ pw ∨ pw + r ≤ a) (d5 : bs + r ≤ pw ∨ pw + r ≤ bs) (d6 : Ab + nb ≤ ar ∨ ar + 2 * r + 1 ≤ Ab) (d7 : Ab + nb ≤ pw ∨ pw + r ≤ Ab) (A : Int) (hBs : nv (σ 2) bs r = A % nv (σ 2) a r) (q1 q3 q4 : Nat) (q5 : Int) (K : ∀ (σ' : St) lv, PW g σ σ' pw bs ar r A (nv (σ 2) a r) (nv (σ 2) Ab nb).toNat → X p l e R s m args below meth c D ad 11 Q (kc D ad g σ') 134 lv []) (n c0 : Nat) (hn : c0 < n) (hc : c0 ≤ 31 * nb) (bg : Int) (hbg : bg = 0 ∨ bg = 1) (hbe : bg = 0 → (nv (σ 2) Ab nb).toNat / 2 ^ c0 = 0) (σ1 : St) (hP : PW g σ σ1 pw bs ar r A (nv (σ 2) a r) ((nv (σ 2) Ab nb).toNat / 2 ^ c0)) : X p l e R s m args below meth c D ad 11 Q (kc D ad g σ1) 82 [(10, vi ((c0 : Int) - 1)), (9, vi bg), (8, vi (pw : Int)), (7, vi (ar : Int)), (6, vi (bs : Int)), (0, .ref (ad 5)), (1, .ref q1), (2, .ref (ad (10 + hb))), (3, .ref q3), (4, .ref q4), (5, vi q5)] [] := by
  induction n generalizing c0 bg σ1 with
  | zero => omega
  | succ n ih =>
  refine x_iload C dX4_powerModulo_82 rfl ?_
  have hnb2 := hnb.2.2.2
  refine x_if_lt (tgt := 134) C dX4_powerModulo_84 (by decide) (by omega) (fun c_84 => ?_) (fun c_84 => ?_)
  · obtain rfl : c0 = 0 := by omega
    rw [Nat.pow_zero, Nat.div_one] at hP
    exact K σ1 _ hP
  · obtain ⟨i, rfl⟩ : ∃ i, c0 = i + 1 := ⟨c0 - 1, by omega⟩
    rw [show ((i + 1 : Nat) : Int) - 1 = (i : Int) by omega]
    refine x_iload C dX4_powerModulo_87 rfl ?_
    refine x_if_eq (tgt := 102) C dX4_powerModulo_89 (by decide) (by omega) (fun c_89 => ?_) (fun c_89 => ?_)
    · first
      | exact lp_pmB C hg hR σ hL a r hD hb Ab nb pw bs ar hnb hpw hbs har d1 d2 d3 d4 d5 d6 d7 A hBs q1 q3 q4 q5 i (by omega) bg hbg hbe (fun σ' bg' h1 h2 h3 => ih i (by omega) (by omega) bg' h1 h2 σ' h3) σ2 hP2
      | exact lp_pmB C hg hR σ hL a r hD hb Ab nb pw bs ar hnb hpw hbs har d1 d2 d3 d4 d5 d6 d7 A hBs q1 q3 q4 q5 i (by omega) bg hbg hbe (fun σ' bg' h1 h2 h3 => ih i (by omega) (by omega) bg' h1 h2 σ' h3) σ1 (by rw [hbe c_89] at hP ⊢; exact hP)
    · refine x_aload_n C dX4_powerModulo_92 rfl rfl ?_
      refine x_iload C dX4_powerModulo_93 rfl ?_
      refine x_iload C dX4_powerModulo_95 rfl ?_
      refine x_iload C dX4_powerModulo_97 rfl ?_
      refine x_callV C (ci := 4) (nn := 3) (c_multiplyModulo hg σ1 hP.1 a r (hD.keep (hP.2.1 5 (by decide)) (fun q h1 h2 => hP.2.2.1 q (by omega) (by omega))) pw pw ar hpw hpw har d1 d1 d3 d4) g_RX4_63 rfl (by decide +kernel) ⟨by first | decide | omega, by first | decide | omega⟩ rfl rfl rfl rfl rfl (Nat.le_of_ble_eq_true rfl) dX4_powerModulo_99 (fun v h1 hp => ?_)
      obtain ⟨σ2, rfl, rfl, hL2, hr2, hf2, hv2⟩ := hp
      have hA1 : nv (σ1 2) a r = nv (σ 2) a r := nv_ext (fun i hi => hP.2.2.1 _ (by omega) (by omega))
      rw [hP.2.2.2, hA1, pow_sq] at hv2
      have hP2 : PW g σ σ2 pw bs ar r A (nv (σ 2) a r) (2 * ((nv (σ 2) Ab nb).toNat / 2 ^ (i + 1))) := ⟨hL2, fun q hq => by rw [hr2 q hq]; exact hP.2.1 q hq, fun q h1 h2 => by rw [hf2 q h1 h2]; exact hP.2.2.1 q h1 h2, hv2⟩
      first
      | exact lp_pmB C hg hR σ hL a r hD hb Ab nb pw bs ar hnb hpw hbs har d1 d2 d3 d4 d5 d6 d7 A hBs q1 q3 q4 q5 i (by omega) bg hbg hbe (fun σ' bg' h1 h2 h3 => ih i (by omega) (by omega) bg' h1 h2 σ' h3) σ2 hP2
      | exact lp_pmB C hg hR σ hL a r hD hb Ab nb pw bs ar hnb hpw hbs har d1 d2 d3 d4 d5 d6 d7 A hBs q1 q3 q4 q5 i (by omega) bg hbg hbe (fun σ' bg' h1 h2 h3 => ih i (by omega) (by omega) bg' h1 h2 σ' h3) σ1 (by rw [hbe c_89] at hP ⊢; exact hP)
set_option maxHeartbeats 4000000 in
set_option maxRecDepth 100000 in
theorem c_powerModulo {l : Launch} {D : va_G} {ad : Nat → Nat} {g : Nat × Nat × Nat × Nat} (hg : 3 ≤ g.1 ∧ g.1 ≤ 11 ∧ 8 ≤ g.2.1 ∧ g.2.1 ≤ 2048 ∧ 1 ≤ g.2.2.1 ∧ g.2.2.1 ≤ 24 ∧ 1 ≤ g.2.2.2 ∧ g.2.2.2 ≤ 12) (σ : St) (hL : LM g σ) (ha Aa na hb Ab nb hm Am nm hr Ar rm : Nat) (hna : NM g σ ha Aa na) (hnb : NM g σ hb Ab nb) (hnm : NM g σ hm Am nm) (hnr : NM g σ hr Ar nm) (hrm : rm + (3 * nm + 1) ≤ g.2.1) (d1 : rm + (3 * nm + 1) ≤ Aa ∨ Aa + na ≤ rm) (d2 : rm + (3 * nm + 1) ≤ Ab ∨ Ab + nb ≤ rm) (d3 : rm + (3 * nm + 1) ≤ Am ∨ Am + nm ≤ rm) (d4 : rm + (3 * nm + 1) ≤ Ar ∨ Ar + nm ≤ rm) (d5 : Ar + nm ≤ Ab ∨ Ab + nb ≤ Ar) (d6 : Ar + nm ≤ Am ∨ Am + nm ≤ Ar) (hz : ∀ q, Ar ≤ q → q < Ar + nm → σ 2 q = 0) (hM : 0 < nv (σ 2) Am nm) : Kt l D ad g yX4_powerModulo (Cond.code yX4_powerModulo cX4_powerModulo 11 none :: tb) 3 140 [.ref (ad 5), .ref (ad (10 + ha)), .ref (ad (10 + hb)), .ref (ad (10 + hm)), .ref (ad (10 + hr)), vi (rm : Int)] σ (fun v σ' => v = none ∧ LM g σ' ∧ (∀ q, q ≠ 2 → q ≠ 5 → σ' q = σ q) ∧ (∀ q, ¬ (rm ≤ q ∧ q < rm + (3 * nm + 1)) → ¬ (Ar ≤ q ∧ q < Ar + nm) → σ' 2 q = σ 2 q) ∧ nv (σ' 2) Ar nm = nv (σ 2) Aa na ^ (nv (σ 2) Ab nb).toNat % nv (σ 2) Am nm) := by
  refine ct_of (by decide) rfl (Nat.le_of_ble_eq_true rfl) ?_
  intro p e s m below meth c C
  change X _ _ _ _ _ _ _ _ _ _ _ _ _ _ _ _ [(0, .ref (ad 5)), (1, .ref (ad (10 + ha))), (2, .ref (ad (10 + hb))), (3, .ref (ad (10 + hm))), (4, .ref (ad (10 + hr))), (5, vi (rm : Int))] _
  obtain ⟨ga, ga3, ga2, gan⟩ := id hna
  obtain ⟨gb, gb3, gb2, gbn⟩ := id hnb
  obtain ⟨gm, gm3, gm2, gmn⟩ := id hnm
  obtain ⟨gr, gr3, gr2, grn⟩ := id hnr
  refine x_aload_n C dX4_powerModulo_0 rfl rfl ?_
  refine x_aload_n C dX4_powerModulo_1 rfl rfl ?_
  refine x_get C (Cn := RX2) (T := TX2) (N := 6) (ci := 2) 3 dX4_powerModulo_2 m_w_2 m_f_RX4_17 rfl (by decide) (kc_num (by omega)) rfl ?_
  rw [gm3]
  refine x_aload_n C dX4_powerModulo_5 rfl rfl ?_
  refine x_get C (Cn := RX2) (T := TX2) (N := 6) (ci := 2) 2 dX4_powerModulo_6 m_w_2 m_f_RX4_23 rfl (by decide) (kc_num (by omega)) rfl ?_
  rw [gm2]
  refine x_callV C (ci := 4) (nn := 2) (c_chooseDivisor hg σ hL Am nm gmn) g_RX4_26 rfl (by decide +kernel) ⟨by first | decide | omega, by first | decide | omega⟩ rfl rfl rfl rfl rfl (Nat.le_of_ble_eq_true rfl) dX4_powerModulo_9 (fun v h1 hp => ?_)
  obtain ⟨σ1, rfl, r, hsg, hrow1, hp⟩ := hp
  have hMe : nv (σ 2) Am nm = nv (σ 2) Am r := nv_top hsg.1 (fun i h1 h2 => hsg.2.1 i h1 h2)
  rcases hp with ⟨rfl, rfl⟩ | ⟨hr0, rfl, hDV⟩
  · rw [hMe, nv_0] at hM; omega
  dsimp only [Option.toList, List.cons_append, List.nil_append]
  have hrn := hsg.1
  have e2 := hrow1 2 (by decide)
  have hL1 := hL.row e2
  obtain ⟨d51, d52, -, -, -⟩ := id hDV
  refine x_if_eq (tgt := 30) C dX4_powerModulo_12 (by decide) (by omega) (fun c_12 => ?_) (fun c_12 => ?_)
  · omega
  · refine x_aload_n C dX4_powerModulo_15 rfl rfl ?_
    refine x_aload_n C dX4_powerModulo_16 rfl rfl ?_
    refine x_get C (Cn := RX4) (T := TX4) (N := 6) (ci := 4) 1 dX4_powerModulo_17 m_w_4 m_f_RX4_53 rfl (by decide) rfl rfl ?_
    rw [d51]
    refine x_aload_n C dX4_powerModulo_20 rfl rfl ?_
    refine x_get C (Cn := RX4) (T := TX4) (N := 6) (ci := 4) 2 dX4_powerModulo_21 m_w_4 m_f_RX4_38 rfl (by decide) rfl rfl ?_
    rw [d52]
    refine x_callV C (ci := 4) (nn := 2) (c_isOne hg σ1 hL1 Am r hr0 (by omega)) g_RX4_56 rfl (by decide +kernel) ⟨by first | decide | omega, by first | decide | omega⟩ rfl rfl rfl rfl rfl (Nat.le_of_ble_eq_true rfl) dX4_powerModulo_24 (fun v h1 hp => ?_)
    obtain ⟨σ2, rfl, rfl, rfl⟩ := hp
    dsimp only [Option.toList, List.cons_append, List.nil_append]
    refine x_if_eq (tgt := 31) C dX4_powerModulo_27 (by decide) (by split <;> omega) (fun c_27 => ?_) (fun c_27 => ?_)
    · have hno : ¬ (r = 1 ∧ σ1 2 Am = 1) := fun c => by rw [if_pos c] at c_27; omega
      have hna1 := hna.keep (hrow1 (10 + ha) (by omega))
      have hM1 : nv (σ1 2) Am r = nv (σ 2) Am nm := by rw [hMe, e2]
      have hM2 : 2 ≤ nv (σ 2) Am nm := by
        rcases (show nv (σ 2) Am nm = 1 ∨ 2 ≤ nv (σ 2) Am nm by omega) with q | q
        · exfalso
          have ht := (dv_top hDV hL1).1
          rw [hM1, q] at ht
          have hr1 : r = 1 := by
            rcases (show r = 1 ∨ 2 ≤ r by omega) with c | c
            · exact c
            · obtain ⟨k, hk⟩ : ∃ k, r - 1 = k + 1 := ⟨r - 2, by omega⟩
              rw [hk, bp_s] at ht
              have := bp_pos k
              omega
          subst hr1
          rw [nv_1] at hM1
          exact hno ⟨rfl, by omega⟩
        · exact q
      refine x_iload C dX4_powerModulo_31 rfl ?_
      refine x_istore C (lv' := [(6, _), (0, _), (1, _), (2, _), (3, _), (4, _), (5, _)]) dX4_powerModulo_33 (by decide) rfl ?_
      refine x_iload C dX4_powerModulo_35 rfl ?_
      refine x_aload_n C dX4_powerModulo_37 rfl rfl ?_
      refine x_get C (Cn := RX4) (T := TX4) (N := 6) (ci := 4) 2 dX4_powerModulo_38 m_w_4 m_f_RX4_38 rfl (by decide) rfl rfl ?_
      rw [d52]
      refine x_iadd C dX4_powerModulo_41 ?_
      rw [show (rm : Int) + (r : Int) = ((rm + r : Nat) : Int) by omega]
      refine x_istore C (lv' := [(7, _), (6, _), (0, _), (1, _), (2, _), (3, _), (4, _), (5, _)]) dX4_powerModulo_42 (by decide) rfl ?_
      refine x_aload_n C dX4_powerModulo_44 rfl rfl ?_
      refine x_aload_n C dX4_powerModulo_45 rfl rfl ?_
      refine x_iload C dX4_powerModulo_46 rfl ?_
      refine x_iload C dX4_powerModulo_48 rfl ?_
      refine x_callV C (ci := 4) (nn := 3) (c_reduceToBase hg σ1 Am r hDV ha Aa na hna1 (rm + r) (by omega) (by omega) (by omega) hL1 rm (by omega) (by omega)) g_RX4_59 rfl (by decide +kernel) ⟨by first | decide | omega, by first | decide | omega⟩ rfl rfl rfl rfl rfl (Nat.le_of_ble_eq_true rfl) dX4_powerModulo_50 (fun v h1 hp => ?_)
      obtain ⟨σ2, rfl, rfl, hL2, hr2, hf2, hv2⟩ := hp
      rw [hM1, e2] at hv2
      have hnr2 := (hnr.keep (hrow1 (10 + hr) (by omega))).keep (hr2 (10 + hr) (by omega))
      have hnb2 := (hnb.keep (hrow1 (10 + hb) (by omega))).keep (hr2 (10 + hb) (by omega))
      refine x_aload C dX4_powerModulo_53 rfl ?_
      refine x_get C (Cn := RX2) (T := TX2) (N := 6) (ci := 2) 3 dX4_powerModulo_55 m_w_2 m_f_RX4_17 rfl (by decide) (kc_num (by omega)) rfl ?_
      rw [hnr2.2.1]
      refine x_istore C (lv' := [(8, _), (7, _), (6, _), (0, _), (1, _), (2, _), (3, _), (4, _), (5, _)]) dX4_powerModulo_58 (by decide) rfl ?_
      refine x_aload_n C dX4_powerModulo_60 rfl rfl ?_
      refine x_get C (Cn := RX4) (T := TX4) (N := 6) (ci := 4) 0 dX4_powerModulo_61 m_w_4 m_f_RX4_9 rfl (by decide) rfl rfl ?_
      refine x_iload C dX4_powerModulo_64 rfl ?_
      refine x_iconst C dX4_powerModulo_66 ?_
      refine k_ast C dX4_powerModulo_67 (fun _ => rfl) (by omega) (by omega) ?_
      rw [Int.toNat_natCast]
      have hL3 : LM g (up σ2 2 Ar 1) := hL2.up (by omega)
      have hr3 : ∀ q, q ≠ 2 → up σ2 2 Ar 1 q = σ2 q := fun q hq => up_n hq
      have hf3 : ∀ q, q ≠ Ar → up σ2 2 Ar 1 2 q = σ2 2 q := fun q hq => by rw [up_s, zup_n hq]
      have hs3 : up σ2 2 Ar 1 2 Ar = 1 := by rw [up_s, zup_s]
      generalize up σ2 2 Ar 1 = σ3 at *
      have hnb3 := hnb2.keep (hr3 (10 + hb) (by omega))
      have hDV3 : DVS g σ3 Am r := hDV.keep (by rw [hr3 5 (by decide), hr2 5 (by decide)]) (fun q h1 h2 => by rw [hf3 q (by omega), hf2 q (by omega) (by omega)])
      have hM3 : nv (σ3 2) Am r = nv (σ 2) Am nm := by rw [← hM1]; exact nv_ext (fun i hi => by rw [hf3 _ (by omega), hf2 _ (by omega) (by omega)])
      have hB3 : nv (σ3 2) rm r = nv (σ 2) Aa na % nv (σ 2) Am nm := by rw [← hv2]; exact nv_ext (fun i hi => hf3 _ (by omega))
      have hE3 : nv (σ3 2) Ab nb = nv (σ 2) Ab nb := nv_ext (fun i hi => by rw [hf3 _ (by omega), hf2 _ (by omega) (by omega), e2])
      have hP3 : nv (σ3 2) Ar r = 1 := by
        obtain ⟨k, rfl⟩ : ∃ k, r = k + 1 := ⟨r - 1, by omega⟩
        rw [nv_hd, hs3, nv_zero (fun i hi => by rw [hf3 _ (by omega), hf2 _ (by omega) (by omega), e2]; exact hz _ (by omega) (by omega))]; rfl
      refine x_iconst C dX4_powerModulo_68 ?_
      refine x_istore C (lv' := [(9, _), (8, _), (7, _), (6, _), (0, _), (1, _), (2, _), (3, _), (4, _), (5, _)]) dX4_powerModulo_69 (by decide) rfl ?_
      refine x_bipush C (z := 31) dX4_powerModulo_71 (by decide) ?_
      refine x_aload_n C dX4_powerModulo_73 rfl rfl ?_
      refine x_get C (Cn := RX2) (T := TX2) (N := 6) (ci := 2) 2 dX4_powerModulo_74 m_w_2 m_f_RX4_23 rfl (by decide) (kc_num (by omega)) rfl ?_
      rw [hnb3.2.2.1]
      refine x_imul C dX4_powerModulo_77 ?_
      refine x_iconst C dX4_powerModulo_78 ?_
      refine x_isub C dX4_powerModulo_79 ?_
      refine x_istore C (lv' := [(10, _), (9, _), (8, _), (7, _), (6, _), (0, _), (1, _), (2, _), (3, _), (4, _), (5, _)]) dX4_powerModulo_80 (by decide) rfl ?_
      rw [show (31 : Int) * (nb : Int) - 1 = ((31 * nb : Nat) : Int) - 1 by omega]
      have hEl : (nv (σ3 2) Ab nb).toNat / 2 ^ (31 * nb) = 0 := by
        rw [hE3]
        have h1 := nv_lt (hL.lim gbn)
        rw [B_31] at h1
        apply Nat.div_eq_of_lt
        have h2 := nv_ge (hL.lim gbn)
        have : ((nv (σ 2) Ab nb).toNat : Int) < ((2 ^ (31 * nb) : Nat) : Int) := by rw [Int.toNat_of_nonneg h2]; push_cast; exact h1
        exact_mod_cast this
      refine lp_pm C hg ⟨by decide, by decide⟩ σ3 hL3 Am r hDV3 hb Ab nb Ar rm (rm + r) hnb3 (by omega) (by omega) (by omega) (by omega) (by omega) (by omega) (by omega) (by omega) (by omega) (by omega) (nv (σ 2) Aa na) (by rw [hB3, hM3]) _ _ _ _ ?_ (31 * nb + 1) (31 * nb) (by omega) (by omega) 0 (Or.inl rfl) (fun _ => hEl) σ3 ⟨hL3, fun _ _ => rfl, fun _ _ _ => rfl, by rw [hEl, hP3, Int.pow_zero, hM3]; exact (Int.emod_eq_of_lt (by omega) (by omega)).symm⟩
      intro σ4 lv ⟨h1, h2, h3, h4⟩
      rw [hE3, hM3] at h4
      refine x_vret C dX4_powerModulo_134 ⟨_, rfl, rfl, h1, fun q e2' e5 => by rw [h2 q e2', hr3 q e2', hr2 q e2', hrow1 q e5], fun q e1 e3 => by rw [h3 q (by omega) (by omega), hf3 q (by omega), hf2 q (by omega) (by omega), e2], ?_⟩
      rw [← h4]
      exact nv_top (by omega) (fun i e1 e3 => by rw [h3 _ (by omega) (by omega), hf3 _ (by omega), hf2 _ (by omega) (by omega), e2]; exact hz _ (by omega) (by omega))
    · exact x_vret C dX4_powerModulo_30 ⟨_, rfl, rfl, hL1, fun q h2 h5 => hrow1 q h5, fun q h1 h2 => by rw [e2], by
          have h1 : r = 1 ∧ σ1 2 Am = 1 := by
            by_cases c : r = 1 ∧ σ1 2 Am = 1
            · exact c
            · rw [if_neg c] at c_27; omega
          obtain ⟨rfl, h1⟩ := h1
          rw [e2] at h1 ⊢
          rw [hMe, nv_1, h1, Int.emod_one]
          exact nv_zero (fun i hi => hz _ (by omega) (by omega))⟩
