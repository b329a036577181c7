/-! CANCEL, INIT -/
/-- what a job that is queued bears: its operands, its ROOM, its result, as cancelling asks -/
def CPj (g : Nat × Nat × Nat × Nat) (σ : St) (j a b m : Nat) : Prop := a < g.2.2.1 ∧ b < g.2.2.1 ∧ σ (40 + j) 2 = a ∧ σ (40 + j) 3 = b ∧ (0 ≤ σ (40 + j) 1 ∧ σ (40 + j) 1 ≤ 3) ∧ (σ (40 + j) 1 = 3 → m < g.2.2.1 ∧ σ (40 + j) 4 = m) ∧
  (σ (40 + j) 8 = -1 ∨ ∃ r o : Nat, σ (40 + j) 8 = r ∧ σ (40 + j) 9 = o ∧ HB g.1 (σ 4) r o) ∧
  (σ (40 + j) 5 = -1 ∨ ∃ h A o : Nat, σ (40 + j) 5 = h ∧ h < g.2.2.1 ∧ σ (10 + h) 0 = 1 ∧ σ (10 + h) 3 = A ∧ σ (10 + h) 4 = o ∧ HB g.1 (σ 4) A o ∧ ∀ r o2 : Nat, σ (40 + j) 8 = r → σ (40 + j) 9 = o2 → dsj A (2 ^ o) r (2 ^ o2))
def CAN (g : Nat × Nat × Nat × Nat) (σ σ' : St) (q : List Int) (j a b m : Nat) : Prop := ∃ σ1 σ2 σ3 σ4 : St, (Qs g σ1 (q.filter (fun x => !decide (x = (j : Int)))) ∧ ∀ n, n ≠ 8 → n ≠ 9 → σ1 n = σ n) ∧ cpP σ1 σ2 (σ (40 + j) 1) a b m (-1) ∧ GUR g σ2 σ3 j ∧
  ((σ (40 + j) 5 = -1 ∧ σ3 = σ4) ∨ (∃ h A o : Nat, σ (40 + j) 5 = h ∧ h < g.2.2.1 ∧ σ (10 + h) 0 = 1 ∧ σ (10 + h) 3 = A ∧ σ (10 + h) 4 = o ∧ VAC g σ3 σ4 h A o)) ∧ σ' = up (up (up σ4 (40 + j) 5 (-1)) (40 + j) 10 0) (40 + j) 0 3
theorem cpP.fld {σ σ' : St} {op : Int} {a b m q k : Nat} {z : Int} (h : cpP σ σ' op a b m z) (hk : k ≠ 5) : σ' q k = σ q k := by
  have one : ∀ (τ : St) (h : Nat), pinF τ h z q k = τ q k := fun τ h => by
    unfold pinF
    by_cases c : q = 10 + h
    · rw [c, up_s, zup_n hk]
    · rw [up_n c]
  rcases h with ⟨-, rfl⟩ | ⟨-, rfl⟩
  · rw [one, one, one]
  · rw [one, one]
theorem GUR.mem {g : Nat × Nat × Nat × Nat} {σ σ' : St} {j : Nat} (hpl : g.1 ≤ 11) (h : GUR g σ σ' j) (hM : MI g.1 (σ 4)) (hC : CN g σ) (hr : σ (40 + j) 8 = -1 ∨ ∃ r o : Nat, σ (40 + j) 8 = r ∧ σ (40 + j) 9 = o ∧ HB g.1 (σ 4) r o) : MI g.1 (σ' 4) ∧ CN g σ' ∧ ∀ x y, HB g.1 (σ 4) x y → (∀ r o2 : Nat, σ (40 + j) 8 = r → σ (40 + j) 9 = o2 → dsj x (2 ^ y) r (2 ^ o2)) → HB g.1 (σ' 4) x y := by
  rcases h with ⟨-, rfl⟩ | ⟨r, o, e8, e9, e4, eC, -, -⟩
  · exact ⟨hM, hC, fun x y hx _ => hx⟩
  · obtain ⟨r1, o1, f8, f9, hB⟩ := hr.resolve_left (by omega)
    obtain rfl : r = r1 := by omega
    obtain rfl : o = o1 := by omega
    have hlt := hB.lt
    obtain ⟨k1, k2⟩ := HB.join hpl (n := 12) (show g.1 - o < 12 by omega) hM hB
    rw [e4]
    exact ⟨k1, eC, fun x y hx hd => k2 x y hx (hd r o e8 e9)⟩
set_option maxHeartbeats 4000000 in
set_option maxRecDepth 100000 in
theorem c_cancel {l : Launch} {D : va_G} {ad : Nat → Nat} {g : Nat × Nat × Nat × Nat} (hg : 3 ≤ g.1 ∧ g.1 ≤ 11 ∧ 8 ≤ g.2.1 ∧ g.2.1 ≤ 2048 ∧ 1 ≤ g.2.2.1 ∧ g.2.2.1 ≤ 24 ∧ 1 ≤ g.2.2.2 ∧ g.2.2.2 ≤ 12) (hnp : g.2.1 = 2 ^ g.1) (σ : St) (hM : MI g.1 (σ 4)) (hC : CN g σ) (hF : FLG g σ) (hS : STT g σ) (q : List Int) (hq : Qs g σ q) (hqr : ∀ x ∈ q, 0 ≤ x ∧ x < 12) (hJ : ∀ j, j < g.2.2.2 → (σ (40 + j) 0 = 0 ∨ σ (40 + j) 0 = 1) → ∃ a b m, CPj g σ j a b m) (j : Int) (rg_j : -2147483648 ≤ j ∧ j < 2147483648) : Kt l D ad g yX5_cancel (Cond.code yX5_cancel cX5_cancel 3 (some .boolean) :: tb) 3 140 [.ref (ad 0), vi j] σ (fun v σ' => (¬ (isJb g σ j ∧ σ (40 + j.toNat) 0 ≤ 1) ∧ v = some (vi 0) ∧ σ = σ') ∨ (v = some (vi 1) ∧ ∃ n a b m : Nat, j = n ∧ n < g.2.2.2 ∧ (σ (40 + n) 0 = 0 ∨ σ (40 + n) 0 = 1) ∧ CPj g σ n a b m ∧ CAN g σ σ' q n a b m)) := by
  refine ct_of (by decide) rfl (Nat.le_of_ble_eq_true rfl) ?_
  intro p e s m below meth c C
  change X _ _ _ _ _ _ _ _ _ _ _ _ _ _ _ _ [(0, .ref (ad 0)), (1, vi j)] _
  refine x_aload_n C dX5_cancel_0 rfl rfl ?_
  refine x_iload_n C dX5_cancel_1 rfl rfl ?_
  refine x_callV C (ci := 5) (nn := 1) (c_isJob hg σ hS j rg_j) g_RX5_154 rfl (by decide +kernel) ⟨by first | decide | omega, by first | decide | omega⟩ rfl rfl rfl rfl rfl (Nat.le_of_ble_eq_true rfl) dX5_cancel_2 (fun v h1 hp => ?_)
  obtain ⟨σ1, rfl, rfl, x, rfl, hx⟩ := hp
  have hxr := hx.rg
  dsimp only [Option.toList, List.cons_append, List.nil_append]
  refine x_if_eq (tgt := 20) C dX5_cancel_5 (by decide) (by omega) (fun c_5 => ?_) (fun c_5 => ?_)
  · refine x_iconst C dX5_cancel_20 ?_
    exact x_zret C dX5_cancel_21 (by decide) ⟨_, rfl, Or.inl ⟨fun z => hx.neg c_5 z.1, rfl, rfl⟩⟩
  · obtain ⟨n, rfl, hn, hu⟩ := hx.yes c_5
    have hst := hS n hn
    refine x_aload_n C dX5_cancel_8 rfl rfl ?_
    refine x_get C (Cn := RX5) (T := TX5) (N := 9) (ci := 5) 3 dX5_cancel_9 m_w_5 m_f_RX5_37 rfl (by decide) rfl rfl ?_
    refine x_iload_n C dX5_cancel_12 rfl rfl ?_
    refine x_aald C 3 (Cn := "LimbKernel$Job") dX5_cancel_13 rfl rfl (by omega) (by omega) rfl ?_
    try rw [Int.toNat_natCast]
    refine x_callV C (ci := 0) (nn := 0) (c_isQueued hg σ n hn hst) g_RX5_163 rfl (by decide +kernel) ⟨by first | decide | omega, by first | decide | omega⟩ rfl rfl (kc_job (by omega) (by omega)) rfl rfl (Nat.le_of_ble_eq_true rfl) dX5_cancel_14 (fun v h1 hp => ?_)
    obtain ⟨σ1, rfl, rfl, rfl⟩ := hp
    dsimp only [Option.toList, List.cons_append, List.nil_append]
    refine x_if_ne (tgt := 22) C dX5_cancel_17 (by decide) (by split <;> omega) (fun c_17 => ?_) (fun c_17 => ?_)
    · have h2 : σ (40 + n) 0 = 0 ∨ σ (40 + n) 0 = 1 := by
        by_cases c : σ (40 + n) 0 = 0 ∨ σ (40 + n) 0 = 1
        · exact c
        · rw [if_neg c] at c_17; exact absurd rfl c_17
      obtain ⟨a, b, m0, hCP⟩ := hJ n hn h2
      clear hJ
      obtain ⟨ca, cb, c2, c3, c1, cm, crm, crs⟩ := id hCP
      refine x_aload_n C dX5_cancel_22 rfl rfl ?_
      refine x_get C (Cn := RX5) (T := TX5) (N := 9) (ci := 5) 3 dX5_cancel_23 m_w_5 m_f_RX5_37 rfl (by decide) rfl rfl ?_
      refine x_iload_n C dX5_cancel_26 rfl rfl ?_
      refine x_aald C 3 (Cn := "LimbKernel$Job") dX5_cancel_27 rfl rfl (by omega) (by omega) rfl ?_
      try rw [Int.toNat_natCast]
      refine x_astore_n C (lv' := [(2, _), (0, _), (1, _)]) dX5_cancel_28 rfl (by decide) rfl ?_
      refine x_aload_n C dX5_cancel_29 rfl rfl ?_
      refine x_get C (Cn := RX5) (T := TX5) (N := 9) (ci := 5) 4 dX5_cancel_30 m_w_5 m_f_RX5_52 rfl (by decide) rfl rfl ?_
      refine x_iload_n C dX5_cancel_33 rfl rfl ?_
      refine x_callV C (ci := 3) (nn := 1) (c_drop hg σ q hq hqr (n : Int) (by omega)) g_RX5_167 rfl (by decide +kernel) ⟨by first | decide | omega, by first | decide | omega⟩ rfl rfl rfl rfl rfl (Nat.le_of_ble_eq_true rfl) dX5_cancel_34 (fun v h1 hp => ?_)
      obtain ⟨σ1, rfl, rfl, hq1, hr1⟩ := hp
      have e1j := hr1 (40 + n) (by omega) (by omega)
      refine x_aload_n C dX5_cancel_37 rfl rfl ?_
      refine x_aload_n C dX5_cancel_38 rfl rfl ?_
      refine x_iconst C dX5_cancel_39 ?_
      refine x_callV C (ci := 5) (nn := 2) (c_changePins hg σ1 n hn a b m0 (-1) ca cb (by rw [e1j]; exact c2) (by rw [e1j]; exact c3) (by rw [e1j]; exact c1) (by rw [e1j]; exact cm)) g_RX5_144 rfl (by decide +kernel) ⟨by first | decide | omega, by first | decide | omega⟩ rfl rfl rfl rfl rfl (Nat.le_of_ble_eq_true rfl) dX5_cancel_40 (fun v h1 hp => ?_)
      obtain ⟨σ2, rfl, rfl, hcp⟩ := hp
      rw [e1j] at hcp
      have lo2 := fun k hk => hcp.lo (q := k) (by omega) ca cb (fun e => (cm e).1) hk
      have e2j : σ2 (40 + n) = σ (40 + n) := by rw [lo2 _ (by omega), e1j]
      have e24 : σ2 4 = σ 4 := by rw [lo2 4 (by omega)]; exact hr1 4 (by decide) (by decide)
      have e23 : σ2 3 = σ 3 := by rw [lo2 3 (by omega)]; exact hr1 3 (by decide) (by decide)
      have hM2 : MI g.1 (σ2 4) := by rw [e24]; exact hM
      have hC2 : CN g σ2 := fun k hk => by rw [e23, e24]; exact hC k hk
      have crm2 : σ2 (40 + n) 8 = -1 ∨ ∃ r o : Nat, σ2 (40 + n) 8 = r ∧ σ2 (40 + n) 9 = o ∧ HB g.1 (σ2 4) r o := by rw [e2j, e24]; exact crm
      have crm3 : σ2 (40 + n) 8 = -1 ∨ ∃ r o : Nat, σ2 (40 + n) 8 = r ∧ r < 2048 ∧ σ2 (40 + n) 9 = o ∧ BLK g σ2 r o := by
        rcases crm2 with e | ⟨r, o, f1, f2, f3⟩
        · exact Or.inl e
        · refine Or.inr ⟨r, o, f1, ?_, f2, f3.blk⟩
          have := f3.lt.1
          omega
      refine x_aload_n C dX5_cancel_43 rfl rfl ?_
      refine x_aload_n C dX5_cancel_44 rfl rfl ?_
      refine x_callV C (ci := 5) (nn := 1) (c_giveUpRoom hg hnp σ2 hM2 hC2 n hn crm3) g_RX5_170 rfl (by decide +kernel) ⟨by first | decide | omega, by first | decide | omega⟩ rfl rfl rfl rfl rfl (Nat.le_of_ble_eq_true rfl) dX5_cancel_45 (fun v h1 hp => ?_)
      obtain ⟨σ3, rfl, rfl, hgu⟩ := hp
      obtain ⟨hM3, hC3, hB3⟩ := hgu.mem (by omega) hM2 hC2 crm2
      have e35 : σ3 (40 + n) 5 = σ (40 + n) 5 := by rw [hgu.job (by decide), e2j]
      have e3N : ∀ h k, h < 24 → k ≠ 5 → σ3 (10 + h) k = σ (10 + h) k := fun h k hh hk => by rw [hgu.row (by omega) (by omega) (by omega), hcp.fld hk, hr1 _ (by omega) (by omega)]
      have hF3 : FLG g σ3 := fun h hh => by rw [e3N h 0 (by omega) (by decide), e3N h 1 (by omega) (by decide)]; exact hF h hh
      have crr : -1 ≤ σ (40 + n) 5 ∧ σ (40 + n) 5 < 24 := by rcases crs with e | ⟨h, A, o, e, e2, -⟩ <;> omega
      refine x_aload_n C dX5_cancel_48 rfl rfl ?_
      refine x_aload_n C dX5_cancel_49 rfl rfl ?_
      refine x_get C (Cn := RX0) (T := TX0) (N := 11) (ci := 0) 5 dX5_cancel_50 m_w_0 m_f_RX5_113 rfl (by decide) (kc_job (by omega) (by omega)) rfl ?_
      rw [e35]
      refine x_callV C (ci := 5) (nn := 1) (c_isNumber hg σ3 hF3 (σ (40 + n) 5) (by omega)) g_RX5_94 rfl (by decide +kernel) ⟨by first | decide | omega, by first | decide | omega⟩ rfl rfl rfl rfl rfl (Nat.le_of_ble_eq_true rfl) dX5_cancel_53 (fun v h1 hp => ?_)
      obtain ⟨σx, rfl, rfl, y, rfl, hy⟩ := hp
      have hyr := hy.rg
      dsimp only [Option.toList, List.cons_append, List.nil_append]
      refine x_if_eq (tgt := 67) C dX5_cancel_56 (by decide) (by omega) (fun c_56 => ?_) (fun c_56 => ?_)
      · refine x_aload_n C dX5_cancel_67 rfl rfl ?_
        refine x_iconst C dX5_cancel_68 ?_
        refine k_putJ C 5 (by decide) dX5_cancel_69 m_f_RX5_113 rfl (by decide +kernel) (by omega) (by omega) ?_
        refine x_aload_n C dX5_cancel_72 rfl rfl ?_
        refine x_lconst0 C dX5_cancel_73 ?_
        refine k_putJl C dX5_cancel_74 m_f_RX5_157 (by omega) (by omega) ?_
        refine x_aload_n C dX5_cancel_77 rfl rfl ?_
        refine x_iconst C dX5_cancel_78 ?_
        refine k_putJ C 0 (by decide) dX5_cancel_79 m_f_RX5_141 rfl (by decide +kernel) (by omega) (by omega) ?_
        refine x_iconst C dX5_cancel_82 ?_
        exact x_zret C dX5_cancel_83 (by decide) ⟨_, rfl, Or.inr ⟨rfl, n, a, b, m0, rfl, hn, h2, hCP, σ1, σ2, σ3, _, ⟨hq1, hr1⟩, hcp, hgu, by
            first
            | exact Or.inr hfin
            | exact Or.inl ⟨by
                rcases crs with e | ⟨h, A, o, e5, eh, e0, -⟩
                · exact e
                · have := hy.no c_56 h e5 eh
                  rw [e3N h 0 (by omega) (by decide)] at this
                  omega, rfl⟩, rfl⟩⟩
      · obtain ⟨h, A, o, r5, rh, r0, r3, r4, rB, rd⟩ := crs.resolve_left (fun e => by obtain ⟨w, e1, -⟩ := hy.yes c_56; omega)
        clear crs crm crm2 crm3
        have hB3r := hB3 A o (by rw [e24]; exact rB) (by rw [e2j]; exact rd)
        refine x_aload_n C dX5_cancel_59 rfl rfl ?_
        refine x_aload_n C dX5_cancel_60 rfl rfl ?_
        refine x_get C (Cn := RX0) (T := TX0) (N := 11) (ci := 0) 5 dX5_cancel_61 m_w_0 m_f_RX5_113 rfl (by decide) (kc_job (by omega) (by omega)) rfl ?_
        rw [e35]
        rw [r5]
        refine x_callV C (ci := 5) (nn := 1) (c_vacate hg hnp σ3 hM3 hC3 h A o rh (by rw [e3N h 3 (by omega) (by decide)]; exact r3) (by rw [e3N h 4 (by omega) (by decide)]; exact r4) hB3r.blk) g_RX5_116 rfl (by decide +kernel) ⟨by first | decide | omega, by first | decide | omega⟩ rfl rfl rfl rfl rfl (Nat.le_of_ble_eq_true rfl) dX5_cancel_64 (fun v h1 hp => ?_)
        obtain ⟨σ4, rfl, rfl, hv⟩ := hp
        have hfin : ∃ h A o : Nat, σ (40 + n) 5 = h ∧ h < g.2.2.1 ∧ σ (10 + h) 0 = 1 ∧ σ (10 + h) 3 = A ∧ σ (10 + h) 4 = o ∧ VAC g σ3 σ4 h A o := ⟨h, A, o, r5, rh, r0, r3, r4, hv⟩
        refine x_aload_n C dX5_cancel_67 rfl rfl ?_
        refine x_iconst C dX5_cancel_68 ?_
        refine k_putJ C 5 (by decide) dX5_cancel_69 m_f_RX5_113 rfl (by decide +kernel) (by omega) (by omega) ?_
        refine x_aload_n C dX5_cancel_72 rfl rfl ?_
        refine x_lconst0 C dX5_cancel_73 ?_
        refine k_putJl C dX5_cancel_74 m_f_RX5_157 (by omega) (by omega) ?_
        refine x_aload_n C dX5_cancel_77 rfl rfl ?_
        refine x_iconst C dX5_cancel_78 ?_
        refine k_putJ C 0 (by decide) dX5_cancel_79 m_f_RX5_141 rfl (by decide +kernel) (by omega) (by omega) ?_
        refine x_iconst C dX5_cancel_82 ?_
        exact x_zret C dX5_cancel_83 (by decide) ⟨_, rfl, Or.inr ⟨rfl, n, a, b, m0, rfl, hn, h2, hCP, σ1, σ2, σ3, _, ⟨hq1, hr1⟩, hcp, hgu, by
            first
            | exact Or.inr hfin
            | exact Or.inl ⟨by
                rcases crs with e | ⟨h, A, o, e5, eh, e0, -⟩
                · exact e
                · have := hy.no c_56 h e5 eh
                  rw [e3N h 0 (by omega) (by decide)] at this
                  omega, rfl⟩, rfl⟩⟩
    · refine x_iconst C dX5_cancel_20 ?_
      exact x_zret C dX5_cancel_21 (by decide) ⟨_, rfl, Or.inl ⟨fun z => by have := z.2; (try rw [Int.toNat_natCast] at this); rw [if_pos (by omega)] at c_17; omega, rfl, rfl⟩⟩
def iniN (σ : St) (n : Nat) : St := fun q => if 10 ≤ q ∧ q < 10 + n then zup (σ q) 0 0 else σ q
def iniJ (σ : St) (n : Nat) : St := fun q => if 40 ≤ q ∧ q < 40 + n then zup (zup (zup (σ q) 0 (-1)) 5 (-1)) 8 (-1) else σ q
theorem iniN_s (σ : St) (i : Nat) : up (iniN σ i) (10 + i) 0 0 = iniN σ (i + 1) := by
  funext q
  unfold iniN
  by_cases c : q = 10 + i
  · rw [c, up_s, if_neg (by omega), if_pos (by omega)]
  · rw [up_n c]
    by_cases c2 : 10 ≤ q ∧ q < 10 + i
    · rw [if_pos c2, if_pos (by omega)]
    · rw [if_neg c2, if_neg (by omega)]
theorem iniJ_s (σ : St) (i : Nat) : up (up (up (iniJ σ i) (40 + i) 0 (-1)) (40 + i) 5 (-1)) (40 + i) 8 (-1) = iniJ σ (i + 1) := by
  funext q
  by_cases c : q = 40 + i
  · rw [c, up_s, up_s, up_s]; unfold iniJ; rw [if_neg (by omega), if_pos (by omega)]
  · rw [up_n c, up_n c, up_n c]; unfold iniJ
    by_cases c2 : 40 ≤ q ∧ q < 40 + i
    · rw [if_pos c2, if_pos (by omega)]
    · rw [if_neg c2, if_neg (by omega)]
theorem iniN_0 (σ : St) : iniN σ 0 = σ := by funext q; unfold iniN; rw [if_neg (by omega)]
theorem iniJ_0 (σ : St) : iniJ σ 0 = σ := by funext q; unfold iniJ; rw [if_neg (by omega)]
def INI (g : Nat × Nat × Nat × Nat) (σ σ' : St) : Prop := ∃ σ1 : St, ((∀ q, q ≠ 3 → q ≠ 4 → σ1 q = σ q) ∧ (∀ a, a < g.2.1 → σ1 4 a = if a = 0 then (g.1 : Int) else -1) ∧ ∀ k, k ≤ g.1 → σ1 3 k = if k = g.1 then 1 else 0) ∧ σ' = up (up (up (iniJ (iniN (up σ1 8 2 0) g.2.2.1) g.2.2.2) 0 6 0) 0 7 0) 0 8 0
set_option maxHeartbeats 4000000 in
set_option maxRecDepth 100000 in
theorem lp_iniN {p : Program} {l : Launch} {e : Env} {R : Room} {s : State} {m : MethodId} {args : Array Value} {below : List Frame} {meth : Method} {c : Code} {D : va_G} {ad : Nat → Nat} {g : Nat × Nat × Nat × Nat} {Q : State → Prop} (C : Fx p s m args meth c D ad cX5_init_ 3 (some .int) yX5_init_.cls tb) (hg : 3 ≤ g.1 ∧ g.1 ≤ 11 ∧ 8 ≤ g.2.1 ∧ g.2.1 ≤ 2048 ∧ 1 ≤ g.2.2.1 ∧ g.2.2.1 ≤ 24 ∧ 1 ≤ g.2.2.2 ∧ g.2.2.2 ≤ 12) (σ : St) (r0 : Int) (K : ∀ lv, lk 0 lv = some (.ref (ad 0)) → lk 1 lv = some (vi r0) → lv_pick lv [1, 2] = [(0, .ref (ad 0)), (1, vi r0)] → X p l e R s m args below meth c D ad 3 Q (kc D ad g (iniN σ g.2.2.1)) 51 lv []) (n i : Nat) (hn : g.2.2.1 - i < n) (hi : i ≤ g.2.2.1) : X p l e R s m args below meth c D ad 3 Q (kc D ad g (iniN σ i)) 26 [(2, vi (i : Int)), (0, .ref (ad 0)), (1, vi r0)] [] := by
  induction n generalizing i with
  | zero => omega
  | succ n ih =>
  refine x_iload_n C dX5_init__26 rfl rfl ?_
  refine x_aload_n C dX5_init__27 rfl rfl ?_
  refine x_get C (Cn := RX5) (T := TX5) (N := 9) (ci := 5) 2 dX5_init__28 m_w_5 m_f_RX5_44 rfl (by decide) rfl rfl ?_
  refine x_alen C 4 dX5_init__31 rfl rfl ?_
  refine x_icmp_ge (tgt := 51) C dX5_init__32 (by decide) (by omega) (by omega) (fun c_32 => ?_) (fun c_32 => ?_)
  · obtain rfl : i = g.2.2.1 := by omega
    exact K _ rfl rfl rfl
  · refine x_aload_n C dX5_init__35 rfl rfl ?_
    refine x_get C (Cn := RX5) (T := TX5) (N := 9) (ci := 5) 2 dX5_init__36 m_w_5 m_f_RX5_44 rfl (by decide) rfl rfl ?_
    refine x_iload_n C dX5_init__39 rfl rfl ?_
    refine x_aald C 4 (Cn := "LimbKernel$Numeral") dX5_init__40 rfl rfl (by omega) (by omega) rfl ?_
    try rw [Int.toNat_natCast]
    refine x_iconst C dX5_init__41 ?_
    refine k_putN C (ty := .boolean) 0 (by decide) dX5_init__42 m_f_RX5_70 rfl (by decide +kernel) (by decide) (by decide) (by omega) ?_
    refine x_iinc C (lv' := [(2, _), (0, _), (1, _)]) dX5_init__45 rfl (by decide) rfl ?_
    refine x_goto (tgt := 26) C dX5_init__48 (by decide) ?_
    rw [show (i : Int) + 1 = ((i + 1 : Nat) : Int) by omega, iniN_s]
    exact ih (i + 1) (by omega) (by omega)
set_option maxHeartbeats 4000000 in
set_option maxRecDepth 100000 in
theorem lp_iniJ {p : Program} {l : Launch} {e : Env} {R : Room} {s : State} {m : MethodId} {args : Array Value} {below : List Frame} {meth : Method} {c : Code} {D : va_G} {ad : Nat → Nat} {g : Nat × Nat × Nat × Nat} {Q : State → Prop} (C : Fx p s m args meth c D ad cX5_init_ 3 (some .int) yX5_init_.cls tb) (hg : 3 ≤ g.1 ∧ g.1 ≤ 11 ∧ 8 ≤ g.2.1 ∧ g.2.1 ≤ 2048 ∧ 1 ≤ g.2.2.1 ∧ g.2.2.1 ≤ 24 ∧ 1 ≤ g.2.2.2 ∧ g.2.2.2 ≤ 12) (hR : 1 ≤ R.frames ∧ 40 ≤ R.locals) (σ : St) (r0 : Int) (K : ∀ lv, lk 0 lv = some (.ref (ad 0)) → lk 1 lv = some (vi r0) → X p l e R s m args below meth c D ad 3 Q (kc D ad g (iniJ σ g.2.2.2)) 77 lv []) (n i : Nat) (hn : g.2.2.2 - i < n) (hi : i ≤ g.2.2.2) : X p l e R s m args below meth c D ad 3 Q (kc D ad g (iniJ σ i)) 53 [(2, vi (i : Int)), (0, .ref (ad 0)), (1, vi r0)] [] := by
  induction n generalizing i with
  | zero => omega
  | succ n ih =>
  refine x_iload_n C dX5_init__53 rfl rfl ?_
  refine x_aload_n C dX5_init__54 rfl rfl ?_
  refine x_get C (Cn := RX5) (T := TX5) (N := 9) (ci := 5) 3 dX5_init__55 m_w_5 m_f_RX5_37 rfl (by decide) rfl rfl ?_
  refine x_alen C 3 dX5_init__58 rfl rfl ?_
  refine x_icmp_ge (tgt := 77) C dX5_init__59 (by decide) (by omega) (by omega) (fun c_59 => ?_) (fun c_59 => ?_)
  · obtain rfl : i = g.2.2.2 := by omega
    exact K _ rfl rfl
  · refine x_aload_n C dX5_init__62 rfl rfl ?_
    refine x_get C (Cn := RX5) (T := TX5) (N := 9) (ci := 5) 3 dX5_init__63 m_w_5 m_f_RX5_37 rfl (by decide) rfl rfl ?_
    refine x_iload_n C dX5_init__66 rfl rfl ?_
    refine x_aald C 3 (Cn := "LimbKernel$Job") dX5_init__67 rfl rfl (by omega) (by omega) rfl ?_
    try rw [Int.toNat_natCast]
    refine x_callV C (ci := 0) (nn := 0) (c_jobClear hg _ i (by omega)) g_RX5_74 rfl (by decide +kernel) ⟨by first | decide | omega, by first | decide | omega⟩ rfl rfl (kc_job (by omega) (by omega)) rfl rfl (Nat.le_of_ble_eq_true rfl) dX5_init__68 (fun v h1 hp => ?_)
    obtain ⟨σ1, rfl, rfl, rfl⟩ := hp
    refine x_iinc C (lv' := [(2, _), (0, _), (1, _)]) dX5_init__71 rfl (by decide) rfl ?_
    refine x_goto (tgt := 53) C dX5_init__74 (by decide) ?_
    rw [show (i : Int) + 1 = ((i + 1 : Nat) : Int) by omega, iniJ_s]
    exact ih (i + 1) (by omega) (by omega)
set_option maxHeartbeats 4000000 in
set_option maxRecDepth 100000 in
theorem c_init {l : Launch} {D : va_G} {ad : Nat → Nat} {g : Nat × Nat × Nat × Nat} (hg : 3 ≤ g.1 ∧ g.1 ≤ 11 ∧ 8 ≤ g.2.1 ∧ g.2.1 ≤ 2048 ∧ 1 ≤ g.2.2.1 ∧ g.2.2.1 ≤ 24 ∧ 1 ≤ g.2.2.2 ∧ g.2.2.2 ≤ 12) (σ : St) : Kt l D ad g yX5_init_ (Cond.code yX5_init_ cX5_init_ 3 (some .int) :: tb) 2 80 [.ref (ad 0)] σ (fun v σ' => v = some (vi (σ 0 7 + σ 0 6)) ∧ INI g σ σ') := by
  refine ct_of (by decide) rfl (Nat.le_of_ble_eq_true rfl) ?_
  intro p e s m below meth c C
  change X _ _ _ _ _ _ _ _ _ _ _ _ _ _ _ _ [(0, .ref (ad 0))] _
  refine x_aload_n C dX5_init__0 rfl rfl ?_
  refine x_get C (Cn := RX5) (T := TX5) (N := 9) (ci := 5) 7 dX5_init__1 m_w_5 m_f_RX5_60 rfl (by decide) rfl rfl ?_
  refine x_aload_n C dX5_init__4 rfl rfl ?_
  refine x_get C (Cn := RX5) (T := TX5) (N := 9) (ci := 5) 6 dX5_init__5 m_w_5 m_f_RX5_63 rfl (by decide) rfl rfl ?_
  refine x_iadd C dX5_init__8 ?_
  refine x_istore_n C (lv' := [(1, _), (0, _)]) dX5_init__9 rfl (by decide) rfl ?_
  refine x_aload_n C dX5_init__10 rfl rfl ?_
  refine x_get C (Cn := RX5) (T := TX5) (N := 9) (ci := 5) 0 dX5_init__11 m_w_5 m_f_RX5_18 rfl (by decide) rfl rfl ?_
  refine x_callV C (ci := 1) (nn := 0) (c_memClear hg σ) g_RX5_66 rfl (by decide +kernel) ⟨by first | decide | omega, by first | decide | omega⟩ rfl rfl rfl rfl rfl (Nat.le_of_ble_eq_true rfl) dX5_init__14 (fun v h1 hp => ?_)
  obtain ⟨σ1, rfl, rfl, hm1, hm2, hm3⟩ := hp
  refine x_aload_n C dX5_init__17 rfl rfl ?_
  refine x_get C (Cn := RX5) (T := TX5) (N := 9) (ci := 5) 4 dX5_init__18 m_w_5 m_f_RX5_52 rfl (by decide) rfl rfl ?_
  refine x_callV C (ci := 3) (nn := 0) (c_queueClear hg σ1) g_RX5_69 rfl (by decide +kernel) ⟨by first | decide | omega, by first | decide | omega⟩ rfl rfl rfl rfl rfl (Nat.le_of_ble_eq_true rfl) dX5_init__21 (fun v h1 hp => ?_)
  obtain ⟨σ2, rfl, rfl, rfl⟩ := hp
  refine x_iconst C dX5_init__24 ?_
  refine x_istore_n C (lv' := [(2, _), (1, _), (0, _)]) dX5_init__25 rfl (by decide) rfl ?_
  refine X.sub [0, 2, 1] rfl ?_
  refine X.eqh (congrArg (kc D ad g) (iniN_0 (up σ1 8 2 0)).symm) ?_
  refine lp_iniN C hg (up σ1 8 2 0) _ ?_ (g.2.2.1 + 1) 0 (by omega) (by omega)
  intro lv k0 k1 kp
  refine X.sub [1, 2] kp ?_
  refine x_iconst C dX5_init__51 ?_
  refine x_istore_n C (lv' := [(2, _), (0, _), (1, _)]) dX5_init__52 rfl (by decide) rfl ?_
  refine X.eqh (congrArg (kc D ad g) (iniJ_0 (iniN (up σ1 8 2 0) g.2.2.1)).symm) ?_
  refine lp_iniJ C hg ⟨by decide, by decide⟩ (iniN (up σ1 8 2 0) g.2.2.1) _ ?_ (g.2.2.2 + 1) 0 (by omega) (by omega)
  intro lv j0 j1
  refine x_aload_n C dX5_init__77 rfl j0 ?_
  refine x_iconst C dX5_init__78 ?_
  refine k_putS C (Cn := RX5) (T := TX5) (N := 9) (ci := 5) (ty := .int) 6 dX5_init__79 m_w_5 m_f_RX5_63 rfl (by decide) tyX5 tyX5_ok nmX5 rfl (by decide +kernel) rfl rfl rfl (Nat.le_of_ble_eq_true rfl) rfl ?_
  refine x_aload_n C dX5_init__82 rfl j0 ?_
  refine x_iconst C dX5_init__83 ?_
  refine k_putS C (Cn := RX5) (T := TX5) (N := 9) (ci := 5) (ty := .int) 7 dX5_init__84 m_w_5 m_f_RX5_60 rfl (by decide) tyX5 tyX5_ok nmX5 rfl (by decide +kernel) rfl rfl rfl (Nat.le_of_ble_eq_true rfl) rfl ?_
  refine x_aload_n C dX5_init__87 rfl j0 ?_
  refine x_iconst C dX5_init__88 ?_
  refine k_putS C (Cn := RX5) (T := TX5) (N := 9) (ci := 5) (ty := .int) 8 dX5_init__89 m_w_5 m_f_RX5_75 rfl (by decide) tyX5 tyX5_ok nmX5 rfl (by decide +kernel) rfl rfl rfl (Nat.le_of_ble_eq_true rfl) rfl ?_
  refine x_iload_n C dX5_init__92 rfl j1 ?_
  exact x_iret C dX5_init__93 ⟨_, rfl, rfl, σ1, ⟨hm1, hm2, hm3⟩, rfl⟩
