/-! THE GREATEST COMMON DIVISOR -/
def gd (x y : Int) : Int := ((Nat.gcd x.toNat y.toNat : Nat) : Int)
theorem gd_0 {x : Int} (h : 0 ≤ x) : gd x 0 = x := by unfold gd; rw [show (0 : Int).toNat = 0 from rfl, Nat.gcd_zero_right]; omega
theorem gd_step {x y : Int} (hx : 0 ≤ x) (hy : 0 < y) : gd x y = gd y (x % y) := by
  unfold gd
  rw [Int.toNat_emod hx (by omega), Nat.gcd_comm y.toNat, ← Nat.gcd_rec, Nat.gcd_comm]
theorem gd_half {x y : Int} (hy : 0 < y) (h : y < x) : 2 * (y * (x % y)) ≤ x * y := by
  have h1 := Int.mul_ediv_add_emod x y
  have h2 := Int.emod_lt_of_pos x hy
  have h3 : 1 ≤ x / y := (Int.le_ediv_iff_mul_le hy).mpr (by omega)
  have h4 := Int.mul_le_mul_of_nonneg_left h3 (show 0 ≤ y by omega)
  have h5 : 2 * (x % y) ≤ x := by omega
  have h6 := Int.mul_le_mul_of_nonneg_left h5 (show 0 ≤ y by omega)
  rw [Int.mul_comm x y, Int.mul_left_comm]
  exact h6
def stI (S st : Nat) (x y : Int) : Prop := (st = 0 ∧ x * y < 2 ^ (31 * S)) ∨ (0 < st ∧ y < x ∧ 2 ^ (st - 1) * (x * y) < 2 ^ (31 * S))
theorem stI_next {S st : Nat} {x y : Int} (hx : 0 ≤ x) (hy : 0 < y) (h : stI S st x y) : stI S (st + 1) y (x % y) := by
  have h0 := Int.emod_nonneg x (show y ≠ 0 by omega)
  have h2 := Int.emod_lt_of_pos x hy
  refine Or.inr ⟨by omega, h2, ?_⟩
  rw [Nat.add_sub_cancel]
  rcases h with ⟨rfl, h⟩ | ⟨h1, h3, h4⟩
  · rw [Int.pow_zero, Int.one_mul]
    have h5 : x % y ≤ x := by
      have h6 := Int.mul_ediv_add_emod x y
      have h7 := Int.mul_nonneg (show 0 ≤ y by omega) (Int.ediv_nonneg hx (show 0 ≤ y by omega))
      omega
    have h6 := Int.mul_le_mul_of_nonneg_left h5 (show 0 ≤ y by omega)
    rw [Int.mul_comm x y] at h
    omega
  · obtain ⟨k, rfl⟩ : ∃ k, st = k + 1 := ⟨st - 1, by omega⟩
    rw [Nat.add_sub_cancel] at h4
    have h5 := Int.mul_le_mul_of_nonneg_left (gd_half hy h3) (show (0 : Int) ≤ 2 ^ k by have := zp_pos k; omega)
    rw [Int.pow_succ, Int.mul_assoc]
    omega
theorem stI_end {S st : Nat} {x y : Int} (hx : 0 ≤ x) (hy : 0 ≤ y) (h : stI S st x y) (hst : 31 * S + 1 ≤ st) : y = 0 := by
  rcases h with ⟨rfl, h⟩ | ⟨h1, h3, h4⟩
  · omega
  · rcases Int.lt_or_le 0 y with q | q
    · exfalso
      have h5 := Int.mul_le_mul_of_nonneg_left (show 1 ≤ y by omega) hx
      have h6 := Int.mul_le_mul_of_nonneg_left (show 1 ≤ x * y by omega) (show (0 : Int) ≤ 2 ^ (st - 1) by have := zp_pos (st - 1); omega)
      have h7 : (2 : Int) ^ (31 * S) ≤ 2 ^ (st - 1) := zp_le (by omega)
      omega
    · omega
theorem B_31 (n : Nat) : (2147483648 : Int) ^ n = 2 ^ (31 * n) := by rw [Int.pow_mul]; rfl
set_option maxHeartbeats 4000000 in
set_option maxRecDepth 100000 in
theorem lp_gcd {p : Program} {l : Launch} {e : Env} {R : Room} {s : State} {m : MethodId} {args : Array Value} {below : List Frame} {meth : Method} {c : Code} {D : va_G} {ad : Nat → Nat} {g : Nat × Nat × Nat × Nat} {Q : State → Prop} (C : Fx p s m args meth c D ad cX4_greatestDivisor 13 none yX4_greatestDivisor.cls tb) (hg : 3 ≤ g.1 ∧ g.1 ≤ 11 ∧ 8 ≤ g.2.1 ∧ g.2.1 ≤ 2048 ∧ 1 ≤ g.2.2.1 ∧ g.2.2.1 ≤ 24 ∧ 1 ≤ g.2.2.2 ∧ g.2.2.2 ≤ 12) (hR : 2 ≤ R.frames ∧ 120 ≤ R.locals) (σ : St) (rm W M S : Nat) (hS : S ≤ 4096) (Gd : Int) (q1 q2 q3 : Nat) (q4 : Int) (K : ∀ (σ' : St) (x xs : Nat) lv, LM g σ' → (∀ q, q ≠ 2 → q ≠ 5 → σ' q = σ q) → (∀ q, ¬ (rm ≤ q ∧ q < rm + W) → σ' 2 q = σ 2 q) → rm ≤ x → x + xs < rm + W → xs ≤ M → nv (σ' 2) x xs = Gd → lk 0 lv = some (.ref (ad 5)) → lk 3 lv = some (.ref q3) → lk 5 lv = some (vi (x : Int)) → lk 6 lv = some (vi (xs : Int)) → X p l e R s m args below meth c D ad 13 Q (kc D ad g σ') 126 lv []) (n st0 : Nat) (hn : 62 * S + 2 - st0 < n) (hst : st0 ≤ 62 * S + 2) (x xs cx y ys cy : Nat) (hx : rm ≤ x ∧ x + cx + 1 ≤ rm + W) (hy : rm ≤ y ∧ y + cy + 1 ≤ rm + W) (hW : rm + W ≤ g.2.1) (hdis : x + cx + 1 ≤ y ∨ y + cy + 1 ≤ x) (hxs : xs ≤ cx ∧ cx ≤ M) (hys : ys ≤ cy ∧ cy ≤ M) (σ1 : St) (hL : LM g σ1) (hrow : ∀ q, q ≠ 2 → q ≠ 5 → σ1 q = σ q) (hfr : ∀ q, ¬ (rm ≤ q ∧ q < rm + W) → σ1 2 q = σ 2 q) (hzx : ∀ q, x + xs ≤ q → q < x + cx + 1 → σ1 2 q = 0) (hzy : ∀ q, y + ys ≤ q → q < y + cy + 1 → σ1 2 q = 0) (hG : gd (nv (σ1 2) x xs) (nv (σ1 2) y ys) = Gd) (hI : stI S st0 (nv (σ1 2) x xs) (nv (σ1 2) y ys)) : X p l e R s m args below meth c D ad 13 Q (kc D ad g σ1) 60 [(10, vi (st0 : Int)), (9, vi ((62 * S + 2 : Nat) : Int)), (8, vi (ys : Int)), (7, vi (y : Int)), (6, vi (xs : Int)), (5, vi (x : Int)), (0, .ref (ad 5)), (1, .ref q1), (2, .ref q2), (3, .ref q3), (4, vi q4)] [] := by
  induction n generalizing st0 x xs cx y ys cy σ1 with
  | zero => omega
  | succ n ih =>
  have hX0 := nv_ge (hL.lim (show x + xs ≤ g.2.1 by omega))
  have hY0 := nv_ge (hL.lim (show y + ys ≤ g.2.1 by omega))
  refine x_iload C dX4_greatestDivisor_60 rfl ?_
  refine x_iload C dX4_greatestDivisor_62 rfl ?_
  refine x_icmp_ge (tgt := 126) C dX4_greatestDivisor_64 (by decide) (by omega) (by omega) (fun c_64 => ?_) (fun c_64 => ?_)
  · have h0 := stI_end hX0 hY0 hI (by omega)
    rw [h0, gd_0 hX0] at hG
    exact K σ1 x xs _ hL hrow hfr hx.1 (by omega) (by omega) hG rfl rfl rfl rfl
  · refine x_aload_n C dX4_greatestDivisor_67 rfl rfl ?_
    refine x_iload C dX4_greatestDivisor_68 rfl ?_
    refine x_iload C dX4_greatestDivisor_70 rfl ?_
    refine x_callV C (ci := 4) (nn := 2) (c_chooseDivisor hg σ1 hL y ys (by omega)) g_RX4_26 rfl (by decide +kernel) ⟨by first | decide | omega, by first | decide | omega⟩ rfl rfl rfl rfl rfl (Nat.le_of_ble_eq_true rfl) dX4_greatestDivisor_72 (fun v h1 hp => ?_)
    obtain ⟨σ2, rfl, r, hsg, hrow2, hp⟩ := hp
    have e2 := hrow2 2 (by decide)
    have hL2 := hL.row e2
    have hYe : nv (σ1 2) y ys = nv (σ1 2) y r := nv_top hsg.1 (fun i h1 h2 => hsg.2.1 i h1 h2)
    have hrs := hsg.1
    obtain ⟨vv, rfl, hvv⟩ : ∃ vv : Int, v = some (vi vv) ∧ ((r = 0 ∧ vv = 0) ∨ (0 < r ∧ vv = 1 ∧ DVS g σ2 y r)) := by
      rcases hp with ⟨h1, h2⟩ | ⟨h1, h2, h3⟩
      · exact ⟨0, h2, Or.inl ⟨h1, rfl⟩⟩
      · exact ⟨1, h2, Or.inr ⟨h1, rfl, h3⟩⟩
    dsimp only [Option.toList, List.cons_append, List.nil_append]
    refine x_if_eq (tgt := 126) C dX4_greatestDivisor_75 (by decide) (by rcases hvv with ⟨-, h⟩ | ⟨-, h, -⟩ <;> omega) (fun c_75 => ?_) (fun c_75 => ?_)
    · have hr0 : r = 0 := by rcases hvv with ⟨h, -⟩ | ⟨-, h, -⟩ <;> omega
      subst hr0
      rw [hYe, nv_0, gd_0 hX0] at hG
      exact K σ2 x xs _ hL2 (fun q h2 h5 => by rw [hrow2 q h5]; exact hrow q h2 h5) (fun q hq => by rw [e2]; exact hfr q hq) hx.1 (by omega) (by omega) (by rw [e2]; exact hG) rfl rfl rfl rfl
    · obtain ⟨hr0, hDV⟩ : 0 < r ∧ DVS g σ2 y r := by
        rcases hvv with ⟨-, h⟩ | ⟨h1, -, h3⟩
        · exact absurd h c_75
        · exact ⟨h1, h3⟩
      have hYp := (dv_top hDV hL2).2
      rw [e2, ← hYe] at hYp
      refine x_aload_n C dX4_greatestDivisor_78 rfl rfl ?_
      refine x_iload C dX4_greatestDivisor_79 rfl ?_
      refine x_iload C dX4_greatestDivisor_81 rfl ?_
      refine x_iconst C dX4_greatestDivisor_83 ?_
      refine x_callV C (ci := 4) (nn := 3) (c_reduce hg σ2 y r x xs hDV (by omega) (by omega) (-1) (Or.inl rfl) hL2 (by rw [e2]; exact hzx _ (by omega) (by omega))) g_RX4_34 rfl (by decide +kernel) ⟨by first | decide | omega, by first | decide | omega⟩ rfl rfl rfl rfl rfl (Nat.le_of_ble_eq_true rfl) dX4_greatestDivisor_84 (fun v h1 hp => ?_)
      obtain ⟨σ3, rfl, rfl, hL3, hrow3, hfr3, hm3, hz3, hzs3, -⟩ := hp
      rw [e2, ← hYe] at hm3
      have e52 : σ3 5 2 = r := by rw [hrow3 5 (by decide)]; exact hDV.2.1
      have hYk : nv (σ3 2) y r = nv (σ1 2) y ys := by rw [hYe]; exact nv_ext (fun i hi => by rw [hfr3 _ (by omega) (fun t0 e => by omega), e2])
      have hXk : nv (σ3 2) x (min xs r) = nv (σ1 2) x xs % nv (σ1 2) y ys := by
        rw [← hm3]
        exact (nv_top (by omega) (fun i h1 h2 => hz3 _ (by omega) (by omega))).symm
      refine x_iload C dX4_greatestDivisor_87 rfl ?_
      refine x_istore C (lv' := [(11, _), (10, _), (9, _), (8, _), (7, _), (6, _), (5, _), (0, _), (1, _), (2, _), (3, _), (4, _)]) dX4_greatestDivisor_89 (by decide) rfl ?_
      refine x_iload C dX4_greatestDivisor_91 rfl ?_
      refine x_aload_n C dX4_greatestDivisor_93 rfl rfl ?_
      refine x_get C (Cn := RX4) (T := TX4) (N := 6) (ci := 4) 2 dX4_greatestDivisor_94 m_w_4 m_f_RX4_38 rfl (by decide) rfl rfl ?_
      rw [e52]
      refine x_mmin C dX4_greatestDivisor_97 m_l_RX4_41 (by omega) (by omega) (by omega) (by show 0 + 13 ≤ R.locals; omega) ?_
      rw [show min (xs : Int) (r : Int) = ((min xs r : Nat) : Int) by omega]
      refine x_istore C (lv' := [(12, _), (11, _), (10, _), (9, _), (8, _), (7, _), (6, _), (5, _), (0, _), (1, _), (2, _), (3, _), (4, _)]) dX4_greatestDivisor_100 (by decide) rfl ?_
      refine x_iload C dX4_greatestDivisor_102 rfl ?_
      refine x_istore C (lv' := [(5, _), (12, _), (11, _), (10, _), (9, _), (8, _), (7, _), (6, _), (0, _), (1, _), (2, _), (3, _), (4, _)]) dX4_greatestDivisor_104 (by decide) rfl ?_
      refine x_aload_n C dX4_greatestDivisor_106 rfl rfl ?_
      refine x_get C (Cn := RX4) (T := TX4) (N := 6) (ci := 4) 2 dX4_greatestDivisor_107 m_w_4 m_f_RX4_38 rfl (by decide) rfl rfl ?_
      rw [e52]
      refine x_istore C (lv' := [(6, _), (5, _), (12, _), (11, _), (10, _), (9, _), (8, _), (7, _), (0, _), (1, _), (2, _), (3, _), (4, _)]) dX4_greatestDivisor_110 (by decide) rfl ?_
      refine x_iload C dX4_greatestDivisor_112 rfl ?_
      refine x_istore C (lv' := [(7, _), (6, _), (5, _), (12, _), (11, _), (10, _), (9, _), (8, _), (0, _), (1, _), (2, _), (3, _), (4, _)]) dX4_greatestDivisor_114 (by decide) rfl ?_
      refine x_iload C dX4_greatestDivisor_116 rfl ?_
      refine x_istore C (lv' := [(8, _), (7, _), (6, _), (5, _), (12, _), (11, _), (10, _), (9, _), (0, _), (1, _), (2, _), (3, _), (4, _)]) dX4_greatestDivisor_118 (by decide) rfl ?_
      refine x_iinc C (lv' := [(10, _), (8, _), (7, _), (6, _), (5, _), (12, _), (11, _), (9, _), (0, _), (1, _), (2, _), (3, _), (4, _)]) dX4_greatestDivisor_120 rfl (by decide) rfl ?_
      refine x_goto (tgt := 60) C dX4_greatestDivisor_123 (by decide) ?_
      refine X.sub [0, 7, 1, 2, 3, 4, 8, 9, 10, 11, 12] rfl ?_
      rw [show (st0 : Int) + 1 = ((st0 + 1 : Nat) : Int) by omega]
      refine ih (st0 + 1) (by omega) (by omega) y r cy x (min xs r) cx hy hx (by omega) (by omega) (by omega) σ3 hL3 (fun q h2 h5 => by rw [hrow3 q h2, hrow2 q h5]; exact hrow q h2 h5) (fun q hq => by rw [hfr3 q (by omega) (fun t0 e => by omega), e2]; exact hfr q hq) ?_ ?_ ?_ ?_
      · intro q h1 h2
        rw [hfr3 q (by omega) (fun t0 e => by omega), e2]
        rcases Nat.lt_or_ge q (y + ys) with c1 | c1
        · have := hsg.2.1 (q - y) (by omega) (by omega); rwa [show y + (q - y) = q by omega] at this
        · exact hzy q c1 h2
      · intro q h1 h2
        rcases Nat.lt_or_ge q (x + xs + 1) with c1 | c1
        · rcases Nat.lt_or_ge q (x + r) with c2 | c2
          · rw [show q = x + xs by omega]; exact hzs3
          · exact hz3 q c2 c1
        · rw [hfr3 q (by omega) (fun t0 e => by omega), e2]; exact hzx q (by omega) h2
      · rw [hYk, hXk, ← gd_step hX0 hYp]; exact hG
      · rw [hYk, hXk]; exact stI_next hX0 hYp hI
set_option maxHeartbeats 4000000 in
set_option maxRecDepth 100000 in
theorem c_greatestDivisor {l : Launch} {D : va_G} {ad : Nat → Nat} {g : Nat × Nat × Nat × Nat} (hg : 3 ≤ g.1 ∧ g.1 ≤ 11 ∧ 8 ≤ g.2.1 ∧ g.2.1 ≤ 2048 ∧ 1 ≤ g.2.2.1 ∧ g.2.2.1 ≤ 24 ∧ 1 ≤ g.2.2.2 ∧ g.2.2.2 ≤ 12) (σ : St) (hL : LM g σ) (ha Aa na hb Ab nb hr Ar rm : Nat) (hna : NM g σ ha Aa na) (hnb : NM g σ hb Ab nb) (hnr : NM g σ hr Ar (max na nb)) (hrm : rm + (na + nb + 2) ≤ g.2.1) (d1 : rm + (na + nb + 2) ≤ Aa ∨ Aa + na ≤ rm) (d2 : rm + (na + nb + 2) ≤ Ab ∨ Ab + nb ≤ rm) (d3 : rm + (na + nb + 2) ≤ Ar ∨ Ar + max na nb ≤ rm) (hz : ∀ q, Ar ≤ q → q < Ar + max na nb → σ 2 q = 0) : Kt l D ad g yX4_greatestDivisor (Cond.code yX4_greatestDivisor cX4_greatestDivisor 13 none :: tb) 3 160 [.ref (ad 5), .ref (ad (10 + ha)), .ref (ad (10 + hb)), .ref (ad (10 + hr)), vi (rm : Int)] σ (fun v σ' => v = none ∧ LM g σ' ∧ (∀ q, q ≠ 2 → q ≠ 5 → σ' q = σ q) ∧ (∀ q, ¬ (rm ≤ q ∧ q < rm + (na + nb + 2)) → ¬ (Ar ≤ q ∧ q < Ar + max na nb) → σ' 2 q = σ 2 q) ∧ nv (σ' 2) Ar (max na nb) = gd (nv (σ 2) Aa na) (nv (σ 2) Ab nb)) := by
  refine ct_of (by decide) rfl (Nat.le_of_ble_eq_true rfl) ?_
  intro p e s m below meth c C
  change X _ _ _ _ _ _ _ _ _ _ _ _ _ _ _ _ [(0, .ref (ad 5)), (1, .ref (ad (10 + ha))), (2, .ref (ad (10 + hb))), (3, .ref (ad (10 + hr))), (4, vi (rm : Int))] _
  obtain ⟨ga, ga3, ga2, gan⟩ := id hna
  obtain ⟨gb, gb3, gb2, gbn⟩ := id hnb
  obtain ⟨gr, gr3, gr2, grn⟩ := id hnr
  refine x_iload C dX4_greatestDivisor_0 rfl ?_
  refine x_istore C (lv' := [(5, _), (0, _), (1, _), (2, _), (3, _), (4, _)]) dX4_greatestDivisor_2 (by decide) rfl ?_
  refine x_aload_n C dX4_greatestDivisor_4 rfl rfl ?_
  refine x_get C (Cn := RX2) (T := TX2) (N := 6) (ci := 2) 2 dX4_greatestDivisor_5 m_w_2 m_f_RX4_23 rfl (by decide) (kc_num (by omega)) rfl ?_
  rw [ga2]
  refine x_istore C (lv' := [(6, _), (5, _), (0, _), (1, _), (2, _), (3, _), (4, _)]) dX4_greatestDivisor_8 (by decide) rfl ?_
  refine x_iload C dX4_greatestDivisor_10 rfl ?_
  refine x_aload_n C dX4_greatestDivisor_12 rfl rfl ?_
  refine x_get C (Cn := RX2) (T := TX2) (N := 6) (ci := 2) 2 dX4_greatestDivisor_13 m_w_2 m_f_RX4_23 rfl (by decide) (kc_num (by omega)) rfl ?_
  rw [ga2]
  refine x_iadd C dX4_greatestDivisor_16 ?_
  refine x_iconst C dX4_greatestDivisor_17 ?_
  refine x_iadd C dX4_greatestDivisor_18 ?_
  rw [show (rm : Int) + (na : Int) + 1 = ((rm + na + 1 : Nat) : Int) by omega]
  refine x_istore C (lv' := [(7, _), (6, _), (5, _), (0, _), (1, _), (2, _), (3, _), (4, _)]) dX4_greatestDivisor_19 (by decide) rfl ?_
  refine x_aload_n C dX4_greatestDivisor_21 rfl rfl ?_
  refine x_get C (Cn := RX2) (T := TX2) (N := 6) (ci := 2) 2 dX4_greatestDivisor_22 m_w_2 m_f_RX4_23 rfl (by decide) (kc_num (by omega)) rfl ?_
  rw [gb2]
  refine x_istore C (lv' := [(8, _), (7, _), (6, _), (5, _), (0, _), (1, _), (2, _), (3, _), (4, _)]) dX4_greatestDivisor_25 (by decide) rfl ?_
  refine x_aload_n C dX4_greatestDivisor_27 rfl rfl ?_
  refine x_aload_n C dX4_greatestDivisor_28 rfl rfl ?_
  refine x_iload C dX4_greatestDivisor_29 rfl ?_
  refine x_callV C (ci := 4) (nn := 2) (c_load hg σ hL ha Aa na hna rm (by omega) (by omega)) g_RX4_30 rfl (by decide +kernel) ⟨by first | decide | omega, by first | decide | omega⟩ rfl rfl rfl rfl rfl (Nat.le_of_ble_eq_true rfl) dX4_greatestDivisor_31 (fun v h1 hp => ?_)
  obtain ⟨σ1, rfl, rfl, hL1, hrow1, hfr1, hcp1, hz1⟩ := hp
  have hnb1 := hnb.keep (hrow1 (10 + hb) (by omega))
  refine x_aload_n C dX4_greatestDivisor_34 rfl rfl ?_
  refine x_aload_n C dX4_greatestDivisor_35 rfl rfl ?_
  refine x_iload C dX4_greatestDivisor_36 rfl ?_
  refine x_callV C (ci := 4) (nn := 2) (c_load hg σ1 hL1 hb Ab nb hnb1 (rm + na + 1) (by omega) (by omega)) g_RX4_30 rfl (by decide +kernel) ⟨by first | decide | omega, by first | decide | omega⟩ rfl rfl rfl rfl rfl (Nat.le_of_ble_eq_true rfl) dX4_greatestDivisor_38 (fun v h1 hp => ?_)
  obtain ⟨σ2, rfl, rfl, hL2, hrow2, hfr2, hcp2, hz2⟩ := hp
  have hna2 := (hna.keep (hrow1 (10 + ha) (by omega))).keep (hrow2 (10 + ha) (by omega))
  have hnb2 := hnb1.keep (hrow2 (10 + hb) (by omega))
  have hnr2 := (hnr.keep (hrow1 (10 + hr) (by omega))).keep (hrow2 (10 + hr) (by omega))
  have hA2 : nv (σ2 2) rm na = nv (σ 2) Aa na := nv_ext (fun i hi => by rw [hfr2 _ (by omega), hcp1 i hi])
  have hB2 : nv (σ2 2) (rm + na + 1) nb = nv (σ 2) Ab nb := nv_ext (fun i hi => by rw [hcp2 i hi, hfr1 _ (by omega)])
  refine x_bipush C (z := 62) dX4_greatestDivisor_41 (by decide) ?_
  refine x_aload_n C dX4_greatestDivisor_43 rfl rfl ?_
  refine x_get C (Cn := RX2) (T := TX2) (N := 6) (ci := 2) 2 dX4_greatestDivisor_44 m_w_2 m_f_RX4_23 rfl (by decide) (kc_num (by omega)) rfl ?_
  rw [hna2.2.2.1]
  refine x_aload_n C dX4_greatestDivisor_47 rfl rfl ?_
  refine x_get C (Cn := RX2) (T := TX2) (N := 6) (ci := 2) 2 dX4_greatestDivisor_48 m_w_2 m_f_RX4_23 rfl (by decide) (kc_num (by omega)) rfl ?_
  rw [hnb2.2.2.1]
  refine x_iadd C dX4_greatestDivisor_51 ?_
  refine x_imul C dX4_greatestDivisor_52 ?_
  refine x_iconst C dX4_greatestDivisor_53 ?_
  refine x_iadd C dX4_greatestDivisor_54 ?_
  refine x_istore C (lv' := [(9, _), (8, _), (7, _), (6, _), (5, _), (0, _), (1, _), (2, _), (3, _), (4, _)]) dX4_greatestDivisor_55 (by decide) rfl ?_
  refine x_iconst C dX4_greatestDivisor_57 ?_
  refine x_istore C (lv' := [(10, _), (9, _), (8, _), (7, _), (6, _), (5, _), (0, _), (1, _), (2, _), (3, _), (4, _)]) dX4_greatestDivisor_58 (by decide) rfl ?_
  rw [show (62 : Int) * ((na : Int) + (nb : Int)) + 2 = ((62 * (na + nb) + 2 : Nat) : Int) by omega]
  refine lp_gcd C hg ⟨by decide, by decide⟩ σ2 rm (na + nb + 2) (max na nb) (na + nb) (by omega) (gd (nv (σ 2) Aa na) (nv (σ 2) Ab nb)) _ _ _ _ ?_ (62 * (na + nb) + 3) 0 (by omega) (by omega) rm na na (rm + na + 1) nb nb (by omega) (by omega) hrm (by omega) (by omega) (by omega) σ2 hL2 (fun _ _ _ => rfl) (fun _ _ => rfl) ?_ ?_ (by rw [hA2, hB2]) ?_
  · intro σ3 x xs lv h1 h2 h3 h4 h5 h6 h7 k0 k3 k5 k6
    have hnr3 := hnr2.keep (h2 (10 + hr) (by omega) (by omega))
    refine x_aload_n C dX4_greatestDivisor_126 rfl k0 ?_
    refine x_get C (Cn := RX4) (T := TX4) (N := 6) (ci := 4) 0 dX4_greatestDivisor_127 m_w_4 m_f_RX4_9 rfl (by decide) rfl rfl ?_
    refine x_iload C dX4_greatestDivisor_130 k5 ?_
    refine x_aload_n C dX4_greatestDivisor_132 rfl k0 ?_
    refine x_get C (Cn := RX4) (T := TX4) (N := 6) (ci := 4) 0 dX4_greatestDivisor_133 m_w_4 m_f_RX4_9 rfl (by decide) rfl rfl ?_
    refine x_aload_n C dX4_greatestDivisor_136 rfl k3 ?_
    refine x_get C (Cn := RX2) (T := TX2) (N := 6) (ci := 2) 3 dX4_greatestDivisor_137 m_w_2 m_f_RX4_17 rfl (by decide) (kc_num gr) rfl ?_
    rw [hnr3.2.1]
    refine x_iload C dX4_greatestDivisor_140 k6 ?_
    refine k_copy C (sp := x) (dp := Ar) (n := xs) dX4_greatestDivisor_142 (by omega) (by omega) (by omega) (by decide) (by decide) (Nat.le_of_ble_eq_true rfl) ?_
    refine x_vret C dX4_greatestDivisor_145 ⟨_, rfl, rfl, LMcp h1 (by omega), fun q e2 e5 => by rw [upr_n e2, h2 q e2 e5, hrow2 q e2, hrow1 q e2], fun q e1 e2 => by rw [upr_s, cp_out (by omega), h3 q e1, hfr2 q (by omega), hfr1 q (by omega)], ?_⟩
    rw [← h7, nv_top (show xs ≤ max na nb by omega) (fun i e1 e2 => by rw [upr_s, cp_out (by omega), h3 _ (by omega), hfr2 _ (by omega), hfr1 _ (by omega)]; exact hz _ (by omega) (by omega)), upr_s]
    exact nv_ext (fun i hi => cp_in hi)
  · intro q e1 e2; rw [show q = rm + na by omega, hfr2 _ (by omega)]; exact hz1
  · intro q e1 e2; rw [show q = rm + na + 1 + nb by omega]; exact hz2
  · left
    refine ⟨rfl, ?_⟩
    have h1 := nv_ge (hL2.lim (show rm + na ≤ g.2.1 by omega))
    have h2 := nv_lt (hL2.lim (show rm + na ≤ g.2.1 by omega))
    have h3 := nv_ge (hL2.lim (show rm + na + 1 + nb ≤ g.2.1 by omega))
    have h4 := nv_lt (hL2.lim (show rm + na + 1 + nb ≤ g.2.1 by omega))
    rw [← B_31, Int.pow_add]
    have h5 := Int.mul_le_mul_of_nonneg_right (Int.le_of_lt h2) h3
    have h6 := Int.mul_lt_mul_of_pos_left h4 (bp_pos na)
    omega
