/-! COPIES, ONE, A BIT, THE QUOTIENT -/
theorem m_ac_s : Cond.static arraycopyName ∈ tb := tb_2 143 rfl rfl
theorem m_ac_n : Cond.native arraycopyName ∈ tb := tb_2 144 rfl rfl
theorem k_copy {p : Program} {l : Launch} {e : Env} {R : Room} {s : State} {m : MethodId} {args : Array Value} {below : List Frame} {meth : Method} {c : Code} {D : va_G} {ad : Nat → Nat} {cc : ByteArray} {nL : Nat} {ret : Option FieldType} {Q : State → Prop} {pc : Nat} {lv : List (Nat × Value)} {st : List Value} {g : Nat × Nat × Nat × Nat} {σ : St} (C : Fx p s m args meth c D ad cc nL ret RX4 tb) {sp dp n : Nat} (hd : decode cc pc = .ok (.invokestatic 47, 3)) (hN : g.2.1 ≤ 2048) (h4 : sp + n ≤ g.2.1) (h5 : dp + n ≤ g.2.1) (hfr : 1 ≤ R.frames) (hlo : 60 ≤ R.locals) (hst : (st.map fun v => v.category).sum ≤ 8) (k : X p l e R s m args below meth c D ad nL Q (kc D ad g (upr σ 2 (cpF (σ 2) sp dp n))) (pc + 3) lv st) : X p l e R s m args below meth c D ad nL Q (kc D ad g σ) pc lv (vi (n : Int) :: vi (dp : Int) :: .ref (ad 2) :: vi (sp : Int) :: .ref (ad 2) :: st) := by
  have hnw : nativeFrameWords "java/lang/System" "arraycopy" 5 ≤ 40 := by decide +kernel
  refine x_copy C (f := σ 2) (N := g.2.1) (sp := (sp : Int)) (dp := (dp : Int)) (n := (n : Int)) hd m_l_RX4_47 m_ac_n m_ac_s rfl (by omega) (by omega) (by omega) (by omega) (by omega) (by omega) hfr (by omega) ?_
  refine X.eqh (kset (σ' := upr σ 2 (cpF (σ 2) sp dp n)) (fun q hq => upr_n hq) ?_) k
  simp only [Int.toNat_natCast]
  show some _ = some _
  rw [upr_s]
theorem x_irem {p : Program} {l : Launch} {e : Env} {R : Room} {s : State} {m : MethodId} {args : Array Value} {below : List Frame} {meth : Method} {c : Code} {D : va_G} {ad : Nat → Nat} {cc : ByteArray} {nL : Nat} {ret : Option FieldType} {own : String} {Ts : List Cond} {Q : State → Prop} {h : HM} {pc : Nat} {lv : List (Nat × Value)} {st : List Value} (C : Fx p s m args meth c D ad cc nL ret own Ts) {a b : Int} (hd : decode cc pc = .ok (.irem, 1)) (ha : 0 ≤ a ∧ a < 2147483648) (hb : 0 < b ∧ b < 2147483648) (k : X p l e R s m args below meth c D ad nL Q h (pc + 1) lv (vi (a % b) :: st)) : X p l e R s m args below meth c D ad nL Q h pc lv (vi b :: vi a :: st) :=
  fun H locs ls hh hs hl => lv_irem C.1 C.2.1 hd (fun q => by have := (iI_eq (show -2147483648 ≤ b ∧ b < 2147483648 by omega) i0R).mp q; omega) (by
    rw [iI_div ha hb, iI_mul, iI_sub, show a - a / b * b = a % b by rw [Int.emod_def, Int.mul_comm]]
    exact k H locs ls hh hs hl)
def NM (g : Nat × Nat × Nat × Nat) (σ : St) (h A n : Nat) : Prop := h < g.2.2.1 ∧ σ (10 + h) 3 = A ∧ σ (10 + h) 2 = n ∧ A + n ≤ g.2.1
theorem NM.keep {g : Nat × Nat × Nat × Nat} {σ σ' : St} {h A n : Nat} (hn : NM g σ h A n) (e : σ' (10 + h) = σ (10 + h)) : NM g σ' h A n := by unfold NM; rw [e]; exact hn
theorem LMupr {g : Nat × Nat × Nat × Nat} {σ : St} {f : Nat → Int} (h : ∀ i, i < g.2.1 → 0 ≤ f i ∧ f i < 2147483648) : LM g (upr σ 2 f) := fun i hi => by rw [upr_s]; exact h i hi
theorem cp_in {f : Nat → Int} {sp dp n i : Nat} (h : i < n) : cpF f sp dp n (dp + i) = f (sp + i) := by
  unfold cpF; rw [if_pos (by omega), show sp + (dp + i - dp) = sp + i by omega]
theorem cp_out {f : Nat → Int} {sp dp n q : Nat} (h : ¬ (dp ≤ q ∧ q < dp + n)) : cpF f sp dp n q = f q := by
  unfold cpF; rw [if_neg h]
theorem LMcp {g : Nat × Nat × Nat × Nat} {σ : St} (hL : LM g σ) {sp dp n : Nat} (h : sp + n ≤ g.2.1) : LM g (upr σ 2 (cpF (σ 2) sp dp n)) := fun i hi => by
  rw [upr_s]; unfold cpF; split
  · exact hL _ (by omega)
  · exact hL i hi
set_option maxHeartbeats 4000000 in
set_option maxRecDepth 100000 in
theorem c_load {l : Launch} {D : va_G} {ad : Nat → Nat} {g : Nat × Nat × Nat × Nat} (hg : 3 ≤ g.1 ∧ g.1 ≤ 11 ∧ 8 ≤ g.2.1 ∧ g.2.1 ≤ 2048 ∧ 1 ≤ g.2.2.1 ∧ g.2.2.1 ≤ 24 ∧ 1 ≤ g.2.2.2 ∧ g.2.2.2 ≤ 12) (σ : St) (hL : LM g σ) (h A n : Nat) (hN : NM g σ h A n) (t : Nat) (ht : t + n + 1 ≤ g.2.1) (hdis : t + n + 1 ≤ A ∨ A + n ≤ t) : Kt l D ad g yX4_load (Cond.code yX4_load cX4_load 3 none :: tb) 1 60 [.ref (ad 5), .ref (ad (10 + h)), vi (t : Int)] σ (fun v σ' => v = none ∧ LM g σ' ∧ (∀ q, q ≠ 2 → σ' q = σ q) ∧ (∀ q, ¬ (t ≤ q ∧ q < t + n + 1) → σ' 2 q = σ 2 q) ∧ (∀ i, i < n → σ' 2 (t + i) = σ 2 (A + i)) ∧ σ' 2 (t + n) = 0) := by
  refine ct_of (by decide) rfl (Nat.le_of_ble_eq_true rfl) ?_
  intro p e s m below meth c C
  change X _ _ _ _ _ _ _ _ _ _ _ _ _ _ _ _ [(0, .ref (ad 5)), (1, .ref (ad (10 + h))), (2, vi (t : Int))] _
  obtain ⟨hh, hA, hn, hAn⟩ := hN
  refine x_aload_n C dX4_load_0 rfl rfl ?_
  refine x_get C (Cn := RX4) (T := TX4) (N := 6) (ci := 4) 0 dX4_load_1 m_w_4 m_f_RX4_9 rfl (by decide) rfl rfl ?_
  refine x_aload_n C dX4_load_4 rfl rfl ?_
  refine x_get C (Cn := RX2) (T := TX2) (N := 6) (ci := 2) 3 dX4_load_5 m_w_2 m_f_RX4_17 rfl (by decide) (kc_num (by omega)) rfl ?_
  rw [hA]
  refine x_aload_n C dX4_load_8 rfl rfl ?_
  refine x_get C (Cn := RX4) (T := TX4) (N := 6) (ci := 4) 0 dX4_load_9 m_w_4 m_f_RX4_9 rfl (by decide) rfl rfl ?_
  refine x_iload_n C dX4_load_12 rfl rfl ?_
  refine x_aload_n C dX4_load_13 rfl rfl ?_
  refine x_get C (Cn := RX2) (T := TX2) (N := 6) (ci := 2) 2 dX4_load_14 m_w_2 m_f_RX4_23 rfl (by decide) (kc_num (by omega)) rfl ?_
  rw [hn]
  refine k_copy C (sp := A) (dp := t) (n := n) dX4_load_17 (by omega) (by omega) (by omega) (by decide) (by decide) (Nat.le_of_ble_eq_true rfl) ?_
  refine x_aload_n C dX4_load_20 rfl rfl ?_
  refine x_get C (Cn := RX4) (T := TX4) (N := 6) (ci := 4) 0 dX4_load_21 m_w_4 m_f_RX4_9 rfl (by decide) rfl rfl ?_
  refine x_iload_n C dX4_load_24 rfl rfl ?_
  refine x_aload_n C dX4_load_25 rfl rfl ?_
  refine x_get C (Cn := RX2) (T := TX2) (N := 6) (ci := 2) 2 dX4_load_26 m_w_2 m_f_RX4_23 rfl (by decide) (kc_num (by omega)) rfl ?_
  rw [upr_n (show 10 + h ≠ 2 by omega), hn]
  refine x_iadd C dX4_load_29 ?_
  refine x_iconst C dX4_load_30 ?_
  refine k_ast C dX4_load_31 (fun _ => rfl) (by omega) (by omega) ?_
  rw [show ((t : Int) + (n : Int)).toNat = t + n by omega]
  exact x_vret C dX4_load_32 ⟨_, rfl, rfl, (LMcp hL (by omega)).up (by omega), fun q hq => by rw [up_n hq, upr_n hq], fun q hq => by rw [up_s, upr_s, zup_n (by omega), cp_out (by omega)], fun i hi => by rw [up_s, upr_s, zup_n (by omega), cp_in hi], by rw [up_s, zup_s]⟩
set_option maxHeartbeats 4000000 in
set_option maxRecDepth 100000 in
theorem c_isOne {l : Launch} {D : va_G} {ad : Nat → Nat} {g : Nat × Nat × Nat × Nat} (hg : 3 ≤ g.1 ∧ g.1 ≤ 11 ∧ 8 ≤ g.2.1 ∧ g.2.1 ≤ 2048 ∧ 1 ≤ g.2.2.1 ∧ g.2.2.1 ≤ 24 ∧ 1 ≤ g.2.2.2 ∧ g.2.2.2 ≤ 12) (σ : St) (hL : LM g σ) (a r : Nat) (hr : 0 < r) (ha : a + r ≤ g.2.1) : Kt l D ad g yX4_isOne (Cond.code yX4_isOne cX4_isOne 3 (some .boolean) :: tb) 0 0 [.ref (ad 5), vi (a : Int), vi (r : Int)] σ (fun v σ' => σ = σ' ∧ v = some (vi (if r = 1 ∧ σ 2 a = 1 then 1 else 0))) := by
  refine ct_of (by decide) rfl (Nat.le_of_ble_eq_true rfl) ?_
  intro p e s m below meth c C
  change X _ _ _ _ _ _ _ _ _ _ _ _ _ _ _ _ [(0, .ref (ad 5)), (1, vi (a : Int)), (2, vi (r : Int))] _
  have hl := hL a (by omega)
  refine x_iload_n C dX4_isOne_0 rfl rfl ?_
  refine x_iconst C dX4_isOne_1 ?_
  refine x_icmp_ne (tgt := 19) C dX4_isOne_2 (by decide) (by omega) (by omega) (fun c_2 => ?_) (fun c_2 => ?_)
  · refine x_iconst C dX4_isOne_19 ?_
    exact x_zret C dX4_isOne_20 (by decide) ⟨_, rfl, rfl, by first | rw [if_pos (by omega)] | rw [if_neg (by omega)]⟩
  · refine x_aload_n C dX4_isOne_5 rfl rfl ?_
    refine x_get C (Cn := RX4) (T := TX4) (N := 6) (ci := 4) 0 dX4_isOne_6 m_w_4 m_f_RX4_9 rfl (by decide) rfl rfl ?_
    refine x_iload_n C dX4_isOne_9 rfl rfl ?_
    refine x_iald C dX4_isOne_10 rfl (by omega) (by omega) ?_
    rw [Int.toNat_natCast]
    refine x_iconst C dX4_isOne_11 ?_
    refine x_icmp_ne (tgt := 19) C dX4_isOne_12 (by decide) (by omega) (by omega) (fun c_12 => ?_) (fun c_12 => ?_)
    · refine x_iconst C dX4_isOne_19 ?_
      exact x_zret C dX4_isOne_20 (by decide) ⟨_, rfl, rfl, by first | rw [if_pos (by omega)] | rw [if_neg (by omega)]⟩
    · refine x_iconst C dX4_isOne_15 ?_
      refine x_goto (tgt := 20) C dX4_isOne_16 (by decide) ?_
      exact x_zret C dX4_isOne_20 (by decide) ⟨_, rfl, rfl, by first | rw [if_pos (by omega)] | rw [if_neg (by omega)]⟩
set_option maxHeartbeats 4000000 in
set_option maxRecDepth 100000 in
theorem c_hasBit {l : Launch} {D : va_G} {ad : Nat → Nat} {g : Nat × Nat × Nat × Nat} (hg : 3 ≤ g.1 ∧ g.1 ≤ 11 ∧ 8 ≤ g.2.1 ∧ g.2.1 ≤ 2048 ∧ 1 ≤ g.2.2.1 ∧ g.2.2.1 ≤ 24 ∧ 1 ≤ g.2.2.2 ∧ g.2.2.2 ≤ 12) (σ : St) (hL : LM g σ) (a n b : Nat) (hb : b < 31 * n) (ha : a + n ≤ g.2.1) : Kt l D ad g yX4_hasBit (Cond.code yX4_hasBit cX4_hasBit 3 (some .boolean) :: tb) 0 0 [.ref (ad 5), vi (a : Int), vi (b : Int)] σ (fun v σ' => σ = σ' ∧ v = some (vi (σ 2 (a + b / 31) / 2 ^ (b % 31) % 2))) := by
  refine ct_of (by decide) rfl (Nat.le_of_ble_eq_true rfl) ?_
  intro p e s m below meth c C
  change X _ _ _ _ _ _ _ _ _ _ _ _ _ _ _ _ [(0, .ref (ad 5)), (1, vi (a : Int)), (2, vi (b : Int))] _
  refine x_aload_n C dX4_hasBit_0 rfl rfl ?_
  refine x_get C (Cn := RX4) (T := TX4) (N := 6) (ci := 4) 0 dX4_hasBit_1 m_w_4 m_f_RX4_9 rfl (by decide) rfl rfl ?_
  refine x_iload_n C dX4_hasBit_4 rfl rfl ?_
  refine x_iload_n C dX4_hasBit_5 rfl rfl ?_
  refine x_bipush C (z := 31) dX4_hasBit_6 (by decide) ?_
  refine x_idiv C (z := ((b : Int) / 31)) dX4_hasBit_8 (by decide) (iI_div (by omega) (by omega)) ?_
  refine x_iadd C dX4_hasBit_9 ?_
  rw [show (a : Int) + (b : Int) / 31 = ((a + b / 31 : Nat) : Int) by omega]
  refine x_iald C dX4_hasBit_10 rfl (by omega) (by omega) ?_
  rw [Int.toNat_natCast]
  have hl := hL (a + b / 31) (by omega)
  refine x_iload_n C dX4_hasBit_11 rfl rfl ?_
  refine x_bipush C (z := 31) dX4_hasBit_12 (by decide) ?_
  refine x_irem C dX4_hasBit_14 (by omega) (by omega) ?_
  rw [show (b : Int) % 31 = ((b % 31 : Nat) : Int) by omega]
  refine x_ishr C dX4_hasBit_15 (by omega) (by omega) ?_
  rw [Int.toNat_natCast]
  have hd2 := zdiv_le (b % 31) hl (by omega) (by omega)
  refine x_iconst C dX4_hasBit_16 ?_
  refine x_iand C (z := (σ 2 (a + b / 31) / 2 ^ (b % 31) % 2)) dX4_hasBit_17 (iI_one _) ?_
  refine x_if_eq (tgt := 25) C dX4_hasBit_18 (by decide) (by omega) (fun c_18 => ?_) (fun c_18 => ?_)
  · refine x_iconst C dX4_hasBit_25 ?_
    exact x_zret C dX4_hasBit_26 (by decide) ⟨_, rfl, rfl, by first | rw [show σ 2 (a + b / 31) / 2 ^ (b % 31) % 2 = 0 by omega] | rw [show σ 2 (a + b / 31) / 2 ^ (b % 31) % 2 = 1 by omega]⟩
  · refine x_iconst C dX4_hasBit_21 ?_
    refine x_goto (tgt := 26) C dX4_hasBit_22 (by decide) ?_
    exact x_zret C dX4_hasBit_26 (by decide) ⟨_, rfl, rfl, by first | rw [show σ 2 (a + b / 31) / 2 ^ (b % 31) % 2 = 0 by omega] | rw [show σ 2 (a + b / 31) / 2 ^ (b % 31) % 2 = 1 by omega]⟩
set_option maxHeartbeats 4000000 in
set_option maxRecDepth 100000 in
theorem c_quotient {l : Launch} {D : va_G} {ad : Nat → Nat} {g : Nat × Nat × Nat × Nat} (hg : 3 ≤ g.1 ∧ g.1 ≤ 11 ∧ 8 ≤ g.2.1 ∧ g.2.1 ≤ 2048 ∧ 1 ≤ g.2.2.1 ∧ g.2.2.1 ≤ 24 ∧ 1 ≤ g.2.2.2 ∧ g.2.2.2 ≤ 12) (σ : St) (hL : LM g σ) (ha Aa na hb Ab nb hr Ar rm : Nat) (hna : NM g σ ha Aa na) (hnb : NM g σ hb Ab nb) (hnr : NM g σ hr Ar na) (hrm : rm + na + 1 ≤ g.2.1) (d1 : rm + na + 1 ≤ Aa ∨ Aa + na ≤ rm) (d2 : rm + na + 1 ≤ Ab ∨ Ab + nb ≤ rm) (d3 : rm + na + 1 ≤ Ar ∨ Ar + na ≤ rm) (d4 : Ar + na ≤ Ab ∨ Ab + nb ≤ Ar) (d5 : Ar + na ≤ Aa ∨ Aa + na ≤ Ar) (hz : ∀ q, Ar ≤ q → q < Ar + na → σ 2 q = 0) (hB : 0 < nv (σ 2) Ab nb) : Kt l D ad g yX4_quotient (Cond.code yX4_quotient cX4_quotient 5 none :: tb) 2 100 [.ref (ad 5), .ref (ad (10 + ha)), .ref (ad (10 + hb)), .ref (ad (10 + hr)), vi (rm : Int)] σ (fun v σ' => v = none ∧ LM g σ' ∧ (∀ q, q ≠ 2 → q ≠ 5 → σ' q = σ q) ∧ (∀ q, ¬ (rm ≤ q ∧ q < rm + na + 1) → ¬ (Ar ≤ q ∧ q < Ar + na) → σ' 2 q = σ 2 q) ∧ nv (σ' 2) Ar na = nv (σ 2) Aa na / nv (σ 2) Ab nb) := by
  refine ct_of (by decide) rfl (Nat.le_of_ble_eq_true rfl) ?_
  intro p e s m below meth c C
  change X _ _ _ _ _ _ _ _ _ _ _ _ _ _ _ _ [(0, .ref (ad 5)), (1, .ref (ad (10 + ha))), (2, .ref (ad (10 + hb))), (3, .ref (ad (10 + hr))), (4, vi (rm : Int))] _
  obtain ⟨ga, ga3, ga2, gan⟩ := id hna
  obtain ⟨gb, gb3, gb2, gbn⟩ := id hnb
  obtain ⟨gr, gr3, gr2, grn⟩ := id hnr
  refine x_aload_n C dX4_quotient_0 rfl rfl ?_
  refine x_aload_n C dX4_quotient_1 rfl rfl ?_
  refine x_get C (Cn := RX2) (T := TX2) (N := 6) (ci := 2) 3 dX4_quotient_2 m_w_2 m_f_RX4_17 rfl (by decide) (kc_num (by omega)) rfl ?_
  rw [gb3]
  refine x_aload_n C dX4_quotient_5 rfl rfl ?_
  refine x_get C (Cn := RX2) (T := TX2) (N := 6) (ci := 2) 2 dX4_quotient_6 m_w_2 m_f_RX4_23 rfl (by decide) (kc_num (by omega)) rfl ?_
  rw [gb2]
  refine x_callV C (ci := 4) (nn := 2) (c_chooseDivisor hg σ hL Ab nb gbn) g_RX4_26 rfl (by decide +kernel) ⟨by first | decide | omega, by first | decide | omega⟩ rfl rfl rfl rfl rfl (Nat.le_of_ble_eq_true rfl) dX4_quotient_9 (fun v h1 hp => ?_)
  obtain ⟨σ1, rfl, r, hsg, hrow1, hp⟩ := hp
  have hBe : nv (σ 2) Ab nb = nv (σ 2) Ab r := nv_top hsg.1 (fun i h1 h2 => hsg.2.1 i h1 h2)
  rcases hp with ⟨rfl, rfl⟩ | ⟨hr0, rfl, hDV⟩
  · rw [hBe, nv_0] at hB; omega
  dsimp only [Option.toList, List.cons_append, List.nil_append]
  have hrn := hsg.1
  have e2 := hrow1 2 (by decide)
  have hL1 := hL.row e2
  refine x_if_eq (tgt := 36) C dX4_quotient_12 (by decide) (by omega) (fun c_12 => ?_) (fun c_12 => ?_)
  · omega
  · refine x_aload_n C dX4_quotient_15 rfl rfl ?_
    refine x_aload_n C dX4_quotient_16 rfl rfl ?_
    refine x_iload C dX4_quotient_17 rfl ?_
    refine x_callV C (ci := 4) (nn := 2) (c_load hg σ1 hL1 ha Aa na (hna.keep (hrow1 _ (by omega))) rm hrm d1) g_RX4_30 rfl (by decide +kernel) ⟨by first | decide | omega, by first | decide | omega⟩ rfl rfl rfl rfl rfl (Nat.le_of_ble_eq_true rfl) dX4_quotient_19 (fun v h1 hp => ?_)
    obtain ⟨σ2, rfl, rfl, hL2, hrow2, hfr2, hcp2, hz2⟩ := hp
    have hDV2 : DVS g σ2 Ab r := hDV.keep (hrow2 5 (by decide)) (fun q h1 h2 => hfr2 q (by omega))
    have hna2 := (hna.keep (hrow1 (10 + ha) (by omega))).keep (hrow2 (10 + ha) (by omega))
    have hnr2 := (hnr.keep (hrow1 (10 + hr) (by omega))).keep (hrow2 (10 + hr) (by omega))
    have hA2 : nv (σ2 2) rm na = nv (σ 2) Aa na := nv_ext (fun i hi => by rw [hcp2 i hi, e2])
    have hB2 : nv (σ2 2) Ab r = nv (σ 2) Ab nb := by rw [hBe]; exact nv_ext (fun i hi => by rw [hfr2 _ (by omega), e2])
    refine x_aload_n C dX4_quotient_22 rfl rfl ?_
    refine x_iload C dX4_quotient_23 rfl ?_
    refine x_aload_n C dX4_quotient_25 rfl rfl ?_
    refine x_get C (Cn := RX2) (T := TX2) (N := 6) (ci := 2) 2 dX4_quotient_26 m_w_2 m_f_RX4_23 rfl (by decide) (kc_num (by omega)) rfl ?_
    rw [hna2.2.2.1]
    refine x_aload_n C dX4_quotient_29 rfl rfl ?_
    refine x_get C (Cn := RX2) (T := TX2) (N := 6) (ci := 2) 3 dX4_quotient_30 m_w_2 m_f_RX4_17 rfl (by decide) (kc_num (by omega)) rfl ?_
    rw [hnr2.2.1]
    refine x_callV C (ci := 4) (nn := 3) (c_reduce hg σ2 Ab r rm na hDV2 hrm (by omega) (Ar : Int) (Or.inr ⟨Ar, rfl, by omega, by omega, by omega⟩) hL2 hz2) g_RX4_34 rfl (by decide +kernel) ⟨by first | decide | omega, by first | decide | omega⟩ rfl rfl rfl rfl rfl (Nat.le_of_ble_eq_true rfl) dX4_quotient_33 (fun v h1 hp => ?_)
    obtain ⟨σ3, rfl, rfl, hL3, hrow3, hfr3, hm3, hzz3, -, hq3⟩ := hp
    exact x_vret C dX4_quotient_36 ⟨_, rfl, rfl, hL3, fun q h2 h5 => by rw [hrow3 q h2, hrow2 q h2, hrow1 q h5], fun q h1 h2 => by rw [hfr3 q h1 (fun t0 e => by omega), hfr2 q h1, e2], by
        rw [← hA2, ← hB2, ← hq3 Ar rfl]
        exact nv_top (by omega) (fun i h1 h2 => by rw [hfr3 _ (by omega) (fun t0 e => by omega), hfr2 _ (by omega), e2]; exact hz _ (by omega) (by omega))⟩
set_option maxHeartbeats 4000000 in
set_option maxRecDepth 100000 in
theorem c_multiplyModulo {l : Launch} {D : va_G} {ad : Nat → Nat} {g : Nat × Nat × Nat × Nat} (hg : 3 ≤ g.1 ∧ g.1 ≤ 11 ∧ 8 ≤ g.2.1 ∧ g.2.1 ≤ 2048 ∧ 1 ≤ g.2.2.1 ∧ g.2.2.1 ≤ 24 ∧ 1 ≤ g.2.2.2 ∧ g.2.2.2 ≤ 12) (σ : St) (hL : LM g σ) (a r : Nat) (hD : DVS g σ a r) (pw fc ar : Nat) (hpw : pw + r ≤ g.2.1) (hfc : fc + r ≤ g.2.1) (har : ar + 2 * r + 1 ≤ g.2.1) (d1 : pw + r ≤ ar ∨ ar + 2 * r + 1 ≤ pw) (d2 : fc + r ≤ ar ∨ ar + 2 * r + 1 ≤ fc) (d3 : a + r ≤ ar ∨ ar + 2 * r + 1 ≤ a) (d4 : a + r ≤ pw ∨ pw + r ≤ a) : Kt l D ad g yX4_multiplyModulo (Cond.code yX4_multiplyModulo cX4_multiplyModulo 5 none :: tb) 2 100 [.ref (ad 5), vi (pw : Int), vi (fc : Int), vi (ar : Int)] σ (fun v σ' => v = none ∧ LM g σ' ∧ (∀ q, q ≠ 2 → σ' q = σ q) ∧ (∀ q, ¬ (ar ≤ q ∧ q < ar + 2 * r + 1) → ¬ (pw ≤ q ∧ q < pw + r) → σ' 2 q = σ 2 q) ∧ nv (σ' 2) pw r = nv (σ 2) pw r * nv (σ 2) fc r % nv (σ 2) a r) := by
  refine ct_of (by decide) rfl (Nat.le_of_ble_eq_true rfl) ?_
  intro p e s m below meth c C
  change X _ _ _ _ _ _ _ _ _ _ _ _ _ _ _ _ [(0, .ref (ad 5)), (1, vi (pw : Int)), (2, vi (fc : Int)), (3, vi (ar : Int))] _
  obtain ⟨d51, d52, hr, hra, -⟩ := id hD
  refine x_aload_n C dX4_multiplyModulo_0 rfl rfl ?_
  refine x_get C (Cn := RX4) (T := TX4) (N := 6) (ci := 4) 2 dX4_multiplyModulo_1 m_w_4 m_f_RX4_38 rfl (by decide) rfl rfl ?_
  rw [d52]
  refine x_istore C (lv' := [(4, _), (0, _), (1, _), (2, _), (3, _)]) dX4_multiplyModulo_4 (by decide) rfl ?_
  refine x_aload_n C dX4_multiplyModulo_6 rfl rfl ?_
  refine x_get C (Cn := RX4) (T := TX4) (N := 6) (ci := 4) 0 dX4_multiplyModulo_7 m_w_4 m_f_RX4_9 rfl (by decide) rfl rfl ?_
  refine x_iload_n C dX4_multiplyModulo_10 rfl rfl ?_
  refine x_iload_n C dX4_multiplyModulo_11 rfl rfl ?_
  refine x_iconst C dX4_multiplyModulo_12 ?_
  refine x_iload C dX4_multiplyModulo_13 rfl ?_
  refine x_imul C dX4_multiplyModulo_15 ?_
  refine x_iadd C dX4_multiplyModulo_16 ?_
  refine x_iconst C dX4_multiplyModulo_17 ?_
  refine x_iadd C dX4_multiplyModulo_18 ?_
  refine x_iconst C dX4_multiplyModulo_19 ?_
  rw [show (ar : Int) + 2 * (r : Int) + 1 = ((ar + 2 * r + 1 : Nat) : Int) by omega]
  refine x_callS C (nn := 4) (c_fillR hg σ 2 g.2.1 ar (ar + 2 * r + 1) (by omega) (by omega) (fun _ => rfl) 0) g_RX4_69 rfl (by decide +kernel) ⟨by first | decide | omega, by first | decide | omega⟩ rfl rfl (Nat.le_of_ble_eq_true rfl) dX4_multiplyModulo_20 (fun v h1 hp => ?_)
  obtain ⟨σ1, rfl, rfl, rfl⟩ := hp
  have hL1 : LM g (upr σ 2 (fl (σ 2) ar (ar + 2 * r + 1) 0)) := LMupr (fun i hi => by unfold fl; split; omega; exact hL i hi)
  have hf1 : ∀ q, ¬ (ar ≤ q ∧ q < ar + 2 * r + 1) → upr σ 2 (fl (σ 2) ar (ar + 2 * r + 1) 0) 2 q = σ 2 q := fun q hq => by rw [upr_s]; unfold fl; rw [if_neg hq]
  have hz1 : ∀ q, ar ≤ q → q < ar + 2 * r + 1 → upr σ 2 (fl (σ 2) ar (ar + 2 * r + 1) 0) 2 q = 0 := fun q h1 h2 => by rw [upr_s]; unfold fl; rw [if_pos ⟨h1, h2⟩]
  have hr1 : ∀ q, q ≠ 2 → upr σ 2 (fl (σ 2) ar (ar + 2 * r + 1) 0) q = σ q := fun q hq => upr_n hq
  generalize upr σ 2 (fl (σ 2) ar (ar + 2 * r + 1) 0) = σ1 at *
  refine x_aload_n C dX4_multiplyModulo_23 rfl rfl ?_
  refine x_iload_n C dX4_multiplyModulo_24 rfl rfl ?_
  refine x_iload_n C dX4_multiplyModulo_25 rfl rfl ?_
  refine x_iload C dX4_multiplyModulo_26 rfl ?_
  refine x_iload_n C dX4_multiplyModulo_28 rfl rfl ?_
  refine x_iload C dX4_multiplyModulo_29 rfl ?_
  refine x_callV C (ci := 4) (nn := 5) (c_addProduct hg σ1 hL1 ar pw r fc r (by omega) (by omega) (by omega) (by omega) (by omega) (fun q h1 h2 => hz1 q h1 (by omega))) g_RX4_83 rfl (by decide +kernel) ⟨by first | decide | omega, by first | decide | omega⟩ rfl rfl rfl rfl rfl (Nat.le_of_ble_eq_true rfl) dX4_multiplyModulo_31 (fun v h1 hp => ?_)
  obtain ⟨σ2, rfl, rfl, hL2, hr2, hf2, hp2⟩ := hp
  have hDV2 : DVS g σ2 a r := hD.keep (by rw [hr2 5 (by decide), hr1 5 (by decide)]) (fun q h1 h2 => by rw [hf2 q (by omega), hf1 q (by omega)])
  have eP : nv (σ1 2) pw r = nv (σ 2) pw r := nv_ext (fun i hi => hf1 _ (by omega))
  have eF : nv (σ1 2) fc r = nv (σ 2) fc r := nv_ext (fun i hi => hf1 _ (by omega))
  have eA : nv (σ2 2) a r = nv (σ 2) a r := nv_ext (fun i hi => by rw [hf2 _ (by omega), hf1 _ (by omega)])
  rw [eP, eF, show r + r = 2 * r by omega] at hp2
  refine x_aload_n C dX4_multiplyModulo_34 rfl rfl ?_
  refine x_iload_n C dX4_multiplyModulo_35 rfl rfl ?_
  refine x_iconst C dX4_multiplyModulo_36 ?_
  refine x_iload C dX4_multiplyModulo_37 rfl ?_
  refine x_imul C dX4_multiplyModulo_39 ?_
  rw [show (2 : Int) * (r : Int) = ((2 * r : Nat) : Int) by omega]
  refine x_iconst C dX4_multiplyModulo_40 ?_
  refine x_callV C (ci := 4) (nn := 3) (c_reduce hg σ2 a r ar (2 * r) hDV2 (by omega) (by omega) (-1) (Or.inl rfl) hL2 (by rw [hf2 _ (by omega)]; exact hz1 _ (by omega) (by omega))) g_RX4_34 rfl (by decide +kernel) ⟨by first | decide | omega, by first | decide | omega⟩ rfl rfl rfl rfl rfl (Nat.le_of_ble_eq_true rfl) dX4_multiplyModulo_41 (fun v h1 hp => ?_)
  obtain ⟨σ3, rfl, rfl, hL3, hr3, hf3, hm3, hz3, -, -⟩ := hp
  rw [hp2, eA] at hm3
  have e5 : σ3 5 2 = r := by rw [hr3 5 (by decide), hr2 5 (by decide), hr1 5 (by decide)]; exact d52
  refine x_aload_n C dX4_multiplyModulo_44 rfl rfl ?_
  refine x_get C (Cn := RX4) (T := TX4) (N := 6) (ci := 4) 0 dX4_multiplyModulo_45 m_w_4 m_f_RX4_9 rfl (by decide) rfl rfl ?_
  refine x_iload_n C dX4_multiplyModulo_48 rfl rfl ?_
  refine x_aload_n C dX4_multiplyModulo_49 rfl rfl ?_
  refine x_get C (Cn := RX4) (T := TX4) (N := 6) (ci := 4) 0 dX4_multiplyModulo_50 m_w_4 m_f_RX4_9 rfl (by decide) rfl rfl ?_
  refine x_iload_n C dX4_multiplyModulo_53 rfl rfl ?_
  refine x_iload C dX4_multiplyModulo_54 rfl ?_
  refine k_copy C (sp := ar) (dp := pw) (n := r) dX4_multiplyModulo_56 (by omega) (by omega) (by omega) (by decide) (by decide) (Nat.le_of_ble_eq_true rfl) ?_
  exact x_vret C dX4_multiplyModulo_59 ⟨_, rfl, rfl, LMcp hL3 (by omega), fun q hq => by rw [upr_n hq, hr3 q hq, hr2 q hq, hr1 q hq], fun q h1 h2 => by rw [upr_s, cp_out h2, hf3 q (by omega) (fun t0 e => by omega), hf2 q (by omega), hf1 q h1], by
      rw [← hm3, nv_top (show r ≤ 2 * r by omega) (fun i h1 h2 => hz3 _ (by omega) (by omega)), upr_s]
      exact nv_ext (fun i hi => cp_in hi)⟩
