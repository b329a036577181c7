/-! A TURN. TPj: what the first job in the queue must bear; TTj: what its turn does -/
def TP0 (g : Nat × Nat × Nat × Nat) (σ : St) (j n o : Nat) : Prop := σ (40 + j) 6 = n ∧ σ (40 + j) 7 = o ∧ o ≤ 17 ∧ n ≤ 2 ^ o ∧ (σ (40 + j) 9 = -1 ∨ ∃ o2 : Nat, σ (40 + j) 9 = o2 ∧ o2 ≤ 17)
def TP1 (g : Nat × Nat × Nat × Nat) (σ : St) (j a b m r Aa na Ab nb Am nm Ar nr : Nat) : Prop := RKP g σ j a b m r Aa na Ab nb Am nm Ar nr ∧ (0 ≤ σ (40 + j) 1 ∧ σ (40 + j) 1 ≤ 3) ∧ (-1000000 ≤ σ (40 + j) 10 ∧ σ (40 + j) 10 ≤ 1000000000000000) ∧ (σ (40 + j) 8 = -1 ∨ ∃ r o : Nat, σ (40 + j) 8 = r ∧ r < 2048 ∧ σ (40 + j) 9 = o ∧ BLK g σ r o)
def TPj (g : Nat × Nat × Nat × Nat) (σ : St) (j : Nat) : Prop := j < g.2.2.2 ∧ ((σ (40 + j) 0 = 0 ∧ ∃ n o, TP0 g σ j n o) ∨ (σ (40 + j) 0 = 1 ∧ ∃ a b m r Aa na Ab nb Am nm Ar nr, TP1 g σ j a b m r Aa na Ab nb Am nm Ar nr))
def TPre (g : Nat × Nat × Nat × Nat) (σ : St) (q : List Int) : Prop := MI g.1 (σ 4) ∧ CN g σ ∧ LM g σ ∧ FLG g σ ∧ (0 ≤ σ 0 6 ∧ σ 0 6 ≤ g.2.2.1) ∧ (σ 0 6 = g.2.2.1 → ∀ k, k < g.2.2.1 → ¬ σ (10 + k) 0 = 0) ∧ Qs g σ q ∧ (1 ≤ σ 0 5 ∧ σ 0 5 ≤ 2000) ∧ ∀ x q', q = x :: q' → ∃ j : Nat, x = j ∧ TPj g σ j
def TTj (g : Nat × Nat × Nat × Nat) (σ σ' : St) (j : Nat) (q' : List Int) : Prop := ∃ σa : St, Qs g σa q' ∧ σa 0 = zup (σ 0) 8 (σ 0 8 + 1) ∧ (∀ n, n ≠ 0 → n ≠ 8 → σa n = σ n) ∧
  ((σ (40 + j) 0 = 0 ∧ (∃ (n o : Nat) (σb : St), TP0 g σ j n o ∧ STA g σa σb j n o ∧ Qs g σ' (q' ++ [(j : Int)]) ∧ ∀ k, k ≠ 8 → k ≠ 9 → σ' k = σb k)) ∨
   (σ (40 + j) 0 = 1 ∧ 0 < σ (40 + j) 10 - σ 0 5 ∧ Qs g σ' (q' ++ [(j : Int)]) ∧ ∀ k, k ≠ 8 → k ≠ 9 → σ' k = up σa (40 + j) 10 (σ (40 + j) 10 - σ 0 5) k) ∨
   (σ (40 + j) 0 = 1 ∧ ¬ 0 < σ (40 + j) 10 - σ 0 5 ∧ Qs g σ' q' ∧ ∃ (a b m r Aa na Ab nb Am nm Ar nr : Nat) (σc : St), TP1 g σ j a b m r Aa na Ab nb Am nm Ar nr ∧ RKQ g (up σa (40 + j) 10 (σ (40 + j) 10 - σ 0 5)) σc j Aa na Ab nb Am nm Ar nr ∧ STL g σc σ' j r a b m))
def TT (g : Nat × Nat × Nat × Nat) (σ σ' : St) (q : List Int) (r : Int) : Prop := (q = [] ∧ r = -1 ∧ σ = σ') ∨ ∃ (j : Nat) (q' : List Int), q = (j : Int) :: q' ∧ r = j ∧ j < g.2.2.2 ∧ TTj g σ σ' j q'
theorem STA.row {g : Nat × Nat × Nat × Nat} {σ σ' : St} {j n o q : Nat} (h : STA g σ σ' j n o) (hH : g.2.2.1 ≤ 24) (hq : q = 8 ∨ q = 9) : σ' q = σ q := by
  rcases h with ⟨rfl, -⟩ | ⟨-, h, A, σ1, σ2, hh, hgv, -, hoc, hc⟩
  · rfl
  · have hh := hh.1
    have e1 : σ1 q = σ q := by
      rcases hgv with ⟨-, rfl, -⟩ | ⟨a, d, -, -, -, -, -, -, -, e⟩
      · rfl
      · exact e q (by omega) (by omega)
    have e2 : σ2 q = σ1 q := hoc.2.2.2.2.2.2.2.2 q (by omega) (by omega) (by omega)
    rcases hc with ⟨-, rfl⟩ | ⟨o2, r2, σ4, -, hg2, rfl⟩
    · rw [up_n (by omega), up_n (by omega), up_n (by omega), up_n (by omega), e2, e1]
    · have e4 : σ4 q = up (up (up σ2 (10 + h) 1 1) (10 + h) 5 1) (40 + j) 5 (h : Int) q := by
        rcases hg2 with ⟨-, rfl, -⟩ | ⟨a, d, -, -, -, -, -, -, -, e⟩
        · rfl
        · exact e q (by omega) (by omega)
      rw [up_n (by omega), up_n (by omega), e4, up_n (by omega), up_n (by omega), up_n (by omega), e2, e1]
theorem STA.st {g : Nat × Nat × Nat × Nat} {σ σ' : St} {j n o : Nat} (h : STA g σ σ' j n o) : σ' (40 + j) 0 = σ (40 + j) 0 ∨ σ' (40 + j) 0 = 1 := by
  rcases h with ⟨rfl, -⟩ | ⟨-, h, A, σ1, σ2, hh, hgv, -, hoc, hc⟩
  · exact Or.inl rfl
  · right
    rcases hc with ⟨-, rfl⟩ | ⟨o2, r2, σ4, -, hg2, rfl⟩ <;> rw [up_s, zup_s]
theorem STL.row {g : Nat × Nat × Nat × Nat} {σ σ' : St} {j r a b m q : Nat} (h : STL g σ σ' j r a b m) (hH : g.2.2.1 ≤ 24) (hr : r < g.2.2.1) (ha : a < g.2.2.1) (hb : b < g.2.2.1) (hm : σ (40 + j) 1 = 3 → m < g.2.2.1) (hq : q = 8 ∨ q = 9) : σ' q = σ q := by
  obtain ⟨σ1, σ2, h1, h2, rfl⟩ := h
  rw [up_n (by omega), up_n (by omega), up_n (by omega), up_n (by omega), h2.row (by omega) (by omega) (by omega), h1.lo (g := g) hH ha hb hm (by omega)]
set_option maxHeartbeats 4000000 in
set_option maxRecDepth 100000 in
theorem c_takeTurn {l : Launch} {D : va_G} {ad : Nat → Nat} {g : Nat × Nat × Nat × Nat} (hg : 3 ≤ g.1 ∧ g.1 ≤ 11 ∧ 8 ≤ g.2.1 ∧ g.2.1 ≤ 2048 ∧ 1 ≤ g.2.2.1 ∧ g.2.2.1 ≤ 24 ∧ 1 ≤ g.2.2.2 ∧ g.2.2.2 ≤ 12) (hnp : g.2.1 = 2 ^ g.1) (σ : St) (q : List Int) (hP : TPre g σ q) : Kt l D ad g yX5_takeTurn (Cond.code yX5_takeTurn cX5_takeTurn 3 (some .int) :: tb) 5 260 [.ref (ad 0)] σ (fun v σ' => ∃ r : Int, v = some (vi r) ∧ TT g σ σ' q r) := by
  refine ct_of (by decide) rfl (Nat.le_of_ble_eq_true rfl) ?_
  intro p e s m below meth c C
  change X _ _ _ _ _ _ _ _ _ _ _ _ _ _ _ _ [(0, .ref (ad 0))] _
  obtain ⟨hM, hC, hL, hF, hU, hall, hq, hqu, hfst⟩ := hP
  rcases q with _ | ⟨x, q'⟩
  · refine x_aload_n C dX5_takeTurn_0 rfl rfl ?_
    refine x_get C (Cn := RX5) (T := TX5) (N := 9) (ci := 5) 4 dX5_takeTurn_1 m_w_5 m_f_RX5_52 rfl (by decide) rfl rfl ?_
    refine x_callV C (ci := 3) (nn := 0) (c_takeFirst hg σ [] hq) g_RX5_220 rfl (by decide +kernel) ⟨by first | decide | omega, by first | decide | omega⟩ rfl rfl rfl rfl rfl (Nat.le_of_ble_eq_true rfl) dX5_takeTurn_4 (fun v h1 hp => ?_)
    obtain ⟨σ1, rfl, hp⟩ := hp
    rcases hp with ⟨-, rfl, rfl⟩ | ⟨j, q', hp, -⟩
    · refine x_istore_n C (lv' := [(1, _), (0, _)]) dX5_takeTurn_7 rfl (by decide) rfl ?_
      refine x_iload_n C dX5_takeTurn_8 rfl rfl ?_
      refine x_iconst C dX5_takeTurn_9 ?_
      refine x_icmp_ne (tgt := 15) C dX5_takeTurn_10 (by decide) (by omega) (by omega) (fun c => absurd rfl c) (fun c => ?_)
      refine x_iconst C dX5_takeTurn_13 ?_
      exact x_iret C dX5_takeTurn_14 ⟨_, rfl, _, rfl, Or.inl ⟨rfl, rfl, rfl⟩⟩
    · simp at hp
  obtain ⟨j, rfl, hj, hTP⟩ := hfst x q' rfl
  clear hfst
  refine x_aload_n C dX5_takeTurn_0 rfl rfl ?_
  refine x_get C (Cn := RX5) (T := TX5) (N := 9) (ci := 5) 4 dX5_takeTurn_1 m_w_5 m_f_RX5_52 rfl (by decide) rfl rfl ?_
  refine x_callV C (ci := 3) (nn := 0) (c_takeFirst hg σ ((j : Int) :: q') hq) g_RX5_220 rfl (by decide +kernel) ⟨by first | decide | omega, by first | decide | omega⟩ rfl rfl rfl rfl rfl (Nat.le_of_ble_eq_true rfl) dX5_takeTurn_4 (fun v h1 hp => ?_)
  obtain ⟨σ1, rfl, hp⟩ := hp
  obtain ⟨rfl, hq1, hr1⟩ : v = some (vi (j : Int)) ∧ Qs g σ1 q' ∧ ∀ n, n ≠ 8 → σ1 n = σ n := by
    rcases hp with ⟨hp, -⟩ | ⟨j1, q1, hp, e1, e2, e3⟩
    · simp at hp
    · obtain ⟨rfl, rfl⟩ := List.cons.inj hp
      exact ⟨e1, e2, e3⟩
  dsimp only [Option.toList, List.cons_append, List.nil_append]
  refine x_istore_n C (lv' := [(1, _), (0, _)]) dX5_takeTurn_7 rfl (by decide) rfl ?_
  refine x_iload_n C dX5_takeTurn_8 rfl rfl ?_
  refine x_iconst C dX5_takeTurn_9 ?_
  refine x_icmp_ne (tgt := 15) C dX5_takeTurn_10 (by decide) (by omega) (by omega) (fun c_10 => ?_) (fun c_10 => ?_)
  · refine x_aload_n C dX5_takeTurn_15 rfl rfl ?_
    refine x_dup C dX5_takeTurn_16 rfl ?_
    refine x_get C (Cn := RX5) (T := TX5) (N := 9) (ci := 5) 8 dX5_takeTurn_17 m_w_5 m_f_RX5_75 rfl (by decide) rfl rfl ?_
    refine x_iconst C dX5_takeTurn_20 ?_
    refine x_iadd C dX5_takeTurn_21 ?_
    refine k_putS C (Cn := RX5) (T := TX5) (N := 9) (ci := 5) (ty := .int) 8 dX5_takeTurn_22 m_w_5 m_f_RX5_75 rfl (by decide) tyX5 tyX5_ok nmX5 rfl (by decide +kernel) rfl rfl rfl (Nat.le_of_ble_eq_true rfl) rfl ?_
    obtain ⟨σa, hσa⟩ : ∃ σa, σa = up σ1 0 8 (σ1 0 8 + 1) := ⟨_, rfl⟩
    rw [← hσa]
    have ha0 : σa 0 = zup (σ 0) 8 (σ 0 8 + 1) := by rw [hσa, up_s, hr1 0 (by decide)]
    have har : ∀ n, n ≠ 0 → n ≠ 8 → σa n = σ n := fun n h0 h8 => by rw [hσa, up_n h0]; exact hr1 n h8
    have haq : Qs g σa q' := hq1.row (by rw [hσa, up_n (by decide)]) (by rw [hσa, up_n (by decide)])
    clear hσa hr1 hq1
    have ej := har (40 + j) (by omega) (by omega)
    have e06 : σa 0 6 = σ 0 6 := by rw [ha0, zup_n (by decide)]
    have e05 : σa 0 5 = σ 0 5 := by rw [ha0, zup_n (by decide)]
    have hst : σ (40 + j) 0 = 0 ∨ σ (40 + j) 0 = 1 := by rcases hTP with ⟨e, -⟩ | ⟨e, -⟩ <;> omega
    have eN : ∀ k, σa (10 + k) = σ (10 + k) := fun k => har _ (by omega) (by omega)
    refine x_aload_n C dX5_takeTurn_25 rfl rfl ?_
    refine x_get C (Cn := RX5) (T := TX5) (N := 9) (ci := 5) 3 dX5_takeTurn_26 m_w_5 m_f_RX5_37 rfl (by decide) rfl rfl ?_
    refine x_iload_n C dX5_takeTurn_29 rfl rfl ?_
    refine x_aald C 3 (Cn := "LimbKernel$Job") dX5_takeTurn_30 rfl rfl (by omega) (by omega) rfl ?_
    try rw [Int.toNat_natCast]
    refine x_astore_n C (lv' := [(2, _), (1, _), (0, _)]) dX5_takeTurn_31 rfl (by decide) rfl ?_
    refine x_aload_n C dX5_takeTurn_32 rfl rfl ?_
    refine x_get C (Cn := RX0) (T := TX0) (N := 11) (ci := 0) 0 dX5_takeTurn_33 m_w_0 m_f_RX5_141 rfl (by decide) (kc_job (by omega) (by omega)) rfl ?_
    rw [ej]
    refine x_if_ne (tgt := 47) C dX5_takeTurn_36 (by decide) (by omega) (fun c_36 => ?_) (fun c_36 => ?_)
    · have c1 : σ (40 + j) 0 = 1 := by omega
      obtain ⟨a, b, m0, r, Aa, na, Ab, nb, Am, nm, Ar, nr, hT1⟩ : ∃ a b m r Aa na Ab nb Am nm Ar nr, TP1 g σ j a b m r Aa na Ab nb Am nm Ar nr := by
        rcases hTP with ⟨e, -⟩ | ⟨-, e⟩
        · omega
        · exact e
      clear hTP
      obtain ⟨hRK, hop, hwk, hrmm⟩ := id hT1
      refine x_aload_n C dX5_takeTurn_47 rfl rfl ?_
      refine x_dup C dX5_takeTurn_48 rfl ?_
      refine x_get C (Cn := RX0) (T := TX0) (N := 11) (ci := 0) 10 dX5_takeTurn_49 m_w_0 m_f_RX5_157 rfl (by decide) (kc_job (by omega) (by omega)) rfl ?_
      rw [ej]
      refine x_aload_n C dX5_takeTurn_52 rfl rfl ?_
      refine x_get C (Cn := RX5) (T := TX5) (N := 9) (ci := 5) 5 dX5_takeTurn_53 m_w_5 m_f_RX5_56 rfl (by decide) rfl rfl ?_
      rw [e05]
      refine x_i2l C dX5_takeTurn_56 (by omega) ?_
      refine x_lsub C dX5_takeTurn_57 ?_
      refine k_putJl C dX5_takeTurn_58 m_f_RX5_157 (by omega) (by omega) ?_
      obtain ⟨σb, hσb⟩ : ∃ σb, σb = up σa (40 + j) 10 (σ (40 + j) 10 - σ 0 5) := ⟨_, rfl⟩
      rw [← hσb]
      have hbr : ∀ n, n ≠ 40 + j → σb n = σa n := fun n h => by rw [hσb, up_n h]
      have hbj : ∀ k, k ≠ 10 → σb (40 + j) k = σ (40 + j) k := fun k h => by rw [hσb, up_s, zup_n h, ej]
      have hb10 : σb (40 + j) 10 = σ (40 + j) 10 - σ 0 5 := by rw [hσb, up_s, zup_s]
      have hqb : Qs g σb q' := haq.row (hbr 8 (by omega)) (hbr 9 (by omega))
      have hql : q'.length < g.2.2.2 := by have := hq.2.2.1; simp at this; omega
      have hsb : σb (40 + j) 0 = 0 ∨ σb (40 + j) 0 = 1 := by rw [hbj 0 (by decide)]; exact hst
      have hiq : -1 ≤ σb (40 + j) 0 ∧ σb (40 + j) 0 ≤ 3 := by omega
      refine x_aload_n C dX5_takeTurn_61 rfl rfl ?_
      refine x_get C (Cn := RX0) (T := TX0) (N := 11) (ci := 0) 10 dX5_takeTurn_62 m_w_0 m_f_RX5_157 rfl (by decide) (kc_job (by omega) (by omega)) rfl ?_
      rw [hb10]
      refine x_lconst0 C dX5_takeTurn_65 ?_
      refine x_lif_gt (tgt := 80) C dX5_takeTurn_66 dX5_takeTurn_67 (by decide) (by omega) (by omega) (fun c_66 => ?_) (fun c_66 => ?_)
      · refine x_aload_n C dX5_takeTurn_80 rfl rfl ?_
        refine x_callV C (ci := 0) (nn := 0) (c_isQueued hg σb j hj (by omega)) g_RX5_163 rfl (by decide +kernel) ⟨by first | decide | omega, by first | decide | omega⟩ rfl rfl (kc_job (by omega) hj) rfl rfl (Nat.le_of_ble_eq_true rfl) dX5_takeTurn_81 (fun v h1 hp => ?_)
        obtain ⟨σ9, rfl, rfl, rfl⟩ := hp
        dsimp only [Option.toList, List.cons_append, List.nil_append]
        rw [if_pos (by omega)]
        refine x_if_eq (tgt := 95) C dX5_takeTurn_84 (by decide) (by omega) (fun c => absurd c (by decide)) (fun _ => ?_)
        refine x_aload_n C dX5_takeTurn_87 rfl rfl ?_
        refine x_get C (Cn := RX5) (T := TX5) (N := 9) (ci := 5) 4 dX5_takeTurn_88 m_w_5 m_f_RX5_52 rfl (by decide) rfl rfl ?_
        refine x_iload_n C dX5_takeTurn_91 rfl rfl ?_
        refine x_callV C (ci := 3) (nn := 1) (c_append hg σb q' hqb hql (j : Int)) g_RX5_148 rfl (by decide +kernel) ⟨by first | decide | omega, by first | decide | omega⟩ rfl rfl rfl rfl rfl (Nat.le_of_ble_eq_true rfl) dX5_takeTurn_92 (fun v h1 hp => ?_)
        obtain ⟨σ9, rfl, rfl, hq9, hr9⟩ := hp
        refine x_iload_n C dX5_takeTurn_95 rfl rfl ?_
        exact x_iret C dX5_takeTurn_96 ⟨_, rfl, _, rfl, Or.inr ⟨j, q', rfl, rfl, hj, σa, haq, ha0, har, Or.inr (Or.inl ⟨c1, by omega, hq9, fun k h8 h9 => by rw [hr9 k h8 h9, hσb]⟩)⟩⟩
      · have hall2 : ∀ n, n ≠ 0 → n ≠ 8 → n ≠ 40 + j → σb n = σ n := fun n h0 h8 h1 => by rw [hbr n h1]; exact har n h0 h8
        have hLb : LM g σb := hL.row (hall2 2 (by decide) (by decide) (by omega))
        have hRKb : RKP g σb j a b m0 r Aa na Ab nb Am nm Ar nr := by
          obtain ⟨x1, x2, x3, x4, x5, x6, x7, x8, x9, y1, y2, y3, y4, y5⟩ := id hRK
          have h2 := hall2 2 (by decide) (by decide) (by omega)
          have kp : ∀ h A n, NM g σ h A n → NM g σb h A n := fun h A n w => w.keep (hall2 _ (by omega) (by omega) (by have := w.1; omega))
          unfold RKP
          rw [hbj 1 (by decide), hbj 2 (by decide), hbj 3 (by decide), hbj 4 (by decide), hbj 5 (by decide), hbj 8 (by decide), h2]
          exact ⟨x1, x2, x3, kp _ _ _ x4, kp _ _ _ x5, kp _ _ _ x6, x7, x8, x9, y1, y2, fun e => ⟨(y3 e).1, kp _ _ _ (y3 e).2.1, (y3 e).2.2⟩, y4, y5⟩
        have ra := hRK.2.2.2.1.1
        have rb := hRK.2.2.2.2.1.1
        have rr := hRK.2.2.2.2.2.1.1
        have rm3 := hRK.2.2.2.2.2.2.2.2.2.2.2.1
        refine x_aload_n C dX5_takeTurn_70 rfl rfl ?_
        refine x_aload_n C dX5_takeTurn_71 rfl rfl ?_
        refine x_callV C (ci := 5) (nn := 1) (c_reckon hg σb hLb j hj (by rw [hbj 1 (by decide)]; exact hop) a b m0 r Aa na Ab nb Am nm Ar nr hRKb) g_RX5_226 rfl (by decide +kernel) ⟨by first | decide | omega, by first | decide | omega⟩ rfl rfl rfl rfl rfl (Nat.le_of_ble_eq_true rfl) dX5_takeTurn_72 (fun v h1 hp => ?_)
        obtain ⟨σc, rfl, rfl, hrq⟩ := hp
        have hcr : ∀ n, n ≠ 2 → n ≠ 5 → σc n = σb n := hrq.2.1
        have cj := hcr (40 + j) (by omega) (by omega)
        have h4c : σc 4 = σ 4 := by rw [hcr 4 (by decide) (by decide)]; exact hall2 4 (by decide) (by decide) (by omega)
        have h3c : σc 3 = σ 3 := by rw [hcr 3 (by decide) (by decide)]; exact hall2 3 (by decide) (by decide) (by omega)
        have cjk : ∀ k, k ≠ 10 → σc (40 + j) k = σ (40 + j) k := fun k h => by rw [cj]; exact hbj k h
        refine x_aload_n C dX5_takeTurn_75 rfl rfl ?_
        refine x_aload_n C dX5_takeTurn_76 rfl rfl ?_
        refine x_callV C (ci := 5) (nn := 1) (c_settle hg hnp σc (by rw [h4c]; exact hM) (fun k hk => by rw [h3c, h4c]; exact hC k hk) j hj a b m0 ra rb (by rw [cjk 2 (by decide)]; exact hRK.1) (by rw [cjk 3 (by decide)]; exact hRK.2.1) (by rw [cjk 1 (by decide)]; exact hop) (by rw [cjk 1 (by decide), cjk 4 (by decide)]; exact fun e => ⟨(rm3 e).2.1.1, (rm3 e).1⟩) (by rw [cjk 8 (by decide), cjk 9 (by decide)]; rcases hrmm with e | ⟨r, o, e1, e2, e3, e4⟩; exact Or.inl e; exact Or.inr ⟨r, o, e1, e2, e3, by unfold BLK; rw [h4c]; exact e4⟩) r rr (by rw [cjk 5 (by decide)]; exact hRK.2.2.1)) g_RX5_229 rfl (by decide +kernel) ⟨by first | decide | omega, by first | decide | omega⟩ rfl rfl rfl rfl rfl (Nat.le_of_ble_eq_true rfl) dX5_takeTurn_77 (fun v h1 hp => ?_)
        obtain ⟨σd, rfl, rfl, hstl⟩ := hp
        have hd8 := fun q hq => hstl.row (q := q) (by omega) rr ra rb (by rw [cjk 1 (by decide)]; exact fun e => (rm3 e).2.1.1) hq
        have hqd : Qs g σd q' := hqb.row (by rw [hd8 8 (Or.inl rfl), hcr 8 (by decide) (by decide)]) (by rw [hd8 9 (Or.inr rfl), hcr 9 (by decide) (by decide)])
        have hsd : σd (40 + j) 0 = 2 := by obtain ⟨s1, s2, -, -, rfl⟩ := hstl; rw [up_s, zup_s]
        refine x_aload_n C dX5_takeTurn_80 rfl rfl ?_
        refine x_callV C (ci := 0) (nn := 0) (c_isQueued hg σd j hj (by omega)) g_RX5_163 rfl (by decide +kernel) ⟨by first | decide | omega, by first | decide | omega⟩ rfl rfl (kc_job (by omega) hj) rfl rfl (Nat.le_of_ble_eq_true rfl) dX5_takeTurn_81 (fun v h1 hp => ?_)
        obtain ⟨σ9, rfl, rfl, rfl⟩ := hp
        dsimp only [Option.toList, List.cons_append, List.nil_append]
        rw [if_neg (by omega)]
        refine x_if_eq (tgt := 95) C dX5_takeTurn_84 (by decide) (by omega) (fun _ => ?_) (fun c => absurd rfl c)
        refine x_iload_n C dX5_takeTurn_95 rfl rfl ?_
        exact x_iret C dX5_takeTurn_96 ⟨_, rfl, _, rfl, Or.inr ⟨j, q', rfl, rfl, hj, σa, haq, ha0, har, Or.inr (Or.inr ⟨c1, by omega, hqd, a, b, m0, r, Aa, na, Ab, nb, Am, nm, Ar, nr, σc, hT1, hσb ▸ hrq, hstl⟩)⟩⟩
    · obtain ⟨n, o, hT0⟩ : ∃ n o, TP0 g σ j n o := by
        rcases hTP with ⟨-, e⟩ | ⟨e, -⟩
        · exact e
        · omega
      clear hTP
      obtain ⟨f6, f7, fo, fn, f9⟩ := id hT0
      refine x_aload_n C dX5_takeTurn_39 rfl rfl ?_
      refine x_aload_n C dX5_takeTurn_40 rfl rfl ?_
      refine x_callV C (ci := 5) (nn := 1) (c_start hg hnp σa (by rw [har 4 (by decide) (by decide)]; exact hM) (fun k hk => by rw [har 3 (by decide) (by decide), har 4 (by decide) (by decide)]; exact hC k hk) (fun k hk => by rw [eN]; exact hF k hk) (by rw [e06]; exact hU) (by rw [e06]; intro e k hk; rw [eN]; exact hall e k hk) j hj n o (by rw [ej]; exact f6) (by rw [ej]; exact f7) fo fn (by rw [ej]; exact f9)) g_RX5_223 rfl (by decide +kernel) ⟨by first | decide | omega, by first | decide | omega⟩ rfl rfl rfl rfl rfl (Nat.le_of_ble_eq_true rfl) dX5_takeTurn_41 (fun v h1 hp => ?_)
      obtain ⟨σb, rfl, rfl, hsta⟩ := hp
      have hqb : Qs g σb q' := haq.row (hsta.row (by omega) (Or.inl rfl)) (hsta.row (by omega) (Or.inr rfl))
      have hsb : σb (40 + j) 0 = 0 ∨ σb (40 + j) 0 = 1 := by have := hsta.st; rw [ej] at this; omega
      have hiq : -1 ≤ σb (40 + j) 0 ∧ σb (40 + j) 0 ≤ 3 := by omega
      have hql : q'.length < g.2.2.2 := by have := hq.2.2.1; simp at this; omega
      refine x_goto (tgt := 80) C dX5_takeTurn_44 (by decide) ?_
      refine x_aload_n C dX5_takeTurn_80 rfl rfl ?_
      refine x_callV C (ci := 0) (nn := 0) (c_isQueued hg σb j hj (by omega)) g_RX5_163 rfl (by decide +kernel) ⟨by first | decide | omega, by first | decide | omega⟩ rfl rfl (kc_job (by omega) hj) rfl rfl (Nat.le_of_ble_eq_true rfl) dX5_takeTurn_81 (fun v h1 hp => ?_)
      obtain ⟨σ9, rfl, rfl, rfl⟩ := hp
      dsimp only [Option.toList, List.cons_append, List.nil_append]
      rw [if_pos (by omega)]
      refine x_if_eq (tgt := 95) C dX5_takeTurn_84 (by decide) (by omega) (fun c => absurd c (by decide)) (fun _ => ?_)
      refine x_aload_n C dX5_takeTurn_87 rfl rfl ?_
      refine x_get C (Cn := RX5) (T := TX5) (N := 9) (ci := 5) 4 dX5_takeTurn_88 m_w_5 m_f_RX5_52 rfl (by decide) rfl rfl ?_
      refine x_iload_n C dX5_takeTurn_91 rfl rfl ?_
      refine x_callV C (ci := 3) (nn := 1) (c_append hg σb q' hqb hql (j : Int)) g_RX5_148 rfl (by decide +kernel) ⟨by first | decide | omega, by first | decide | omega⟩ rfl rfl rfl rfl rfl (Nat.le_of_ble_eq_true rfl) dX5_takeTurn_92 (fun v h1 hp => ?_)
      obtain ⟨σ9, rfl, rfl, hq9, hr9⟩ := hp
      refine x_iload_n C dX5_takeTurn_95 rfl rfl ?_
      exact x_iret C dX5_takeTurn_96 ⟨_, rfl, _, rfl, Or.inr ⟨j, q', rfl, rfl, hj, σa, haq, ha0, har, Or.inl ⟨by omega, n, o, σb, hT0, hsta, hq9, hr9⟩⟩⟩
  · omega
