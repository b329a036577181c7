/-! THE REFERENCE'S TICK -/
def RKr (ρ : St) (j a b m h Aa na Ab nb Am nm Ar nr : Nat) : Prop := (0 ≤ ρ 13 j ∧ ρ 13 j ≤ 3) ∧ ρ 18 j = h ∧ ρ 14 j = a ∧ ρ 15 j = b ∧ (a < 24 ∧ b < 24 ∧ m < 24 ∧ h < 24) ∧ (ρ 8 a = Aa ∧ ρ 7 a = na ∧ Aa + na ≤ 2048) ∧ (ρ 8 b = Ab ∧ ρ 7 b = nb ∧ Ab + nb ≤ 2048) ∧ (ρ 8 h = Ar ∧ ρ 7 h = nr ∧ Ar + nr ≤ 2048) ∧
  ((ρ 13 j = 3 ∧ ρ 16 j = m ∧ ρ 8 m = Am ∧ ρ 7 m = nm ∧ Am + nm ≤ 2048 ∧ nv (ρ 4) Am nm ≠ 0) ∨ (ρ 13 j ≠ 3 ∧ ρ 16 j = -1)) ∧ (ρ 13 j = 1 → nv (ρ 4) Ab nb ≠ 0) ∧ (ρ 13 j = 0 → na + nb ≤ nr) ∧ (ρ 13 j = 1 → na ≤ nr) ∧ opV (ρ 13 j) (nv (ρ 4) Aa na) (nv (ρ 4) Ab nb) (nv (ρ 4) Am nm) < 2147483648 ^ nr
def RJ0 (ρ : St) (j : Nat) : Prop := ρ 12 j = 0 ∧ ∃ a b m sa sb sm : Nat, JFr ρ j a b m sa sb sm ∧ 0 ≤ plL (ρ 13 j) sa sb sm
def RBL (g : Nat × Nat × Nat × Nat) (ρ : St) (j : Nat) : Prop := ρ 20 j = -1 ∨ ∃ r o : Nat, ρ 19 j = r ∧ ρ 20 j = o ∧ BLr g (ρ 5) r o
def RJ1 (g : Nat × Nat × Nat × Nat) (ρ : St) (j : Nat) : Prop := ρ 12 j = 1 ∧ (-1000000 ≤ ρ 17 j ∧ ρ 17 j ≤ 1000000000000000) ∧ (∃ a b m h Aa na Ab nb Am nm Ar nr : Nat, RKr ρ j a b m h Aa na Ab nb Am nm Ar nr) ∧ RBL g ρ j
def RJx (g : Nat × Nat × Nat × Nat) (ρ : St) (x : Int) : Prop := ∃ j : Nat, x = j ∧ j < 12 ∧ (RJ0 ρ j ∨ RJ1 g ρ j)
def TPr (g : Nat × Nat × Nat × Nat) (ρ : St) (q : List Int) : Prop := RS g ρ ∧ RF ρ ∧ LMr ρ ∧ MI g.1 (ρ 5) ∧ QL ρ q ∧ (∀ x ∈ q, 0 ≤ x ∧ x < 12) ∧ (1 ≤ ρ 0 3 ∧ ρ 0 3 ≤ 2000) ∧ ∀ x q', q = x :: q' → RJx g ρ x
def QTN (ρ ρ' : St) (q' : List Int) (j : Nat) : Prop := QL ρ' (q' ++ [(j : Int)]) ∧ ∀ n, n ≠ 21 → ρ' n = ρ n
def TRj (g : Nat × Nat × Nat × Nat) (ρ ρ' : St) (j : Nat) (q' : List Int) : Prop :=
  (ρ 12 j = 0 ∧ ∃ (a b m sa sb sm : Nat) (ρb : St), JFr ρ j a b m sa sb sm ∧ STR g (up ρ 0 23 (ρ 0 23 + 1)) ρb j (plL (ρ 13 j) sa sb sm) (plR (ρ 13 j) sa sb sm) ∧ QTN ρb ρ' q' j) ∨
  (ρ 12 j = 1 ∧ 0 < ρ 17 j - ρ 0 3 ∧ QTN (up (up ρ 0 23 (ρ 0 23 + 1)) 17 j (ρ 17 j - ρ 0 3)) ρ' q' j) ∨
  (ρ 12 j = 1 ∧ ¬ 0 < ρ 17 j - ρ 0 3 ∧ ∃ (a b m h Aa na Ab nb Am nm Ar nr : Nat) (ρc : St), RKr ρ j a b m h Aa na Ab nb Am nm Ar nr ∧ RRP (up (up ρ 0 23 (ρ 0 23 + 1)) 17 j (ρ 17 j - ρ 0 3)) ρc Ar nr (opV (ρ 13 j) (nv (ρ 4) Aa na) (nv (ρ 4) Ab nb) (nv (ρ 4) Am nm)) ∧ LEV g (up (up (up (up ρc 11 h 0) 10 h 0) 17 j 0) 12 j 2) ρ' ((j : Int) :: q') j a b m)
def TR (g : Nat × Nat × Nat × Nat) (ρ ρ' : St) (q : List Int) (r : Int) : Prop := (q = [] ∧ r = -1 ∧ ρ = ρ') ∨ ∃ (j : Nat) (q' : List Int), q = (j : Int) :: q' ∧ r = j ∧ j < 12 ∧ TRj g ρ ρ' j q'
theorem MAK.row {ρ : St} {h n a o q : Nat} (h4 : q ≠ 4) (h6 : q ≠ 6) (h7 : q ≠ 7) (h8 : q ≠ 8) (h9 : q ≠ 9) (h10 : q ≠ 10) (h11 : q ≠ 11) : MAK ρ h n a o q = ρ q := by
  unfold MAK mkF
  rw [upr_n h4, up_n h10, up_n h9, up_n h8, up_n h7, up_n h11, up_n h6]
theorem stF.row {ρ : St} {h j q : Nat} (h10 : q ≠ 10) (h11 : q ≠ 11) (h12 : q ≠ 12) (h18 : q ≠ 18) : stF ρ h j q = ρ q := by
  unfold stF
  rw [up_n h12, up_n h18, up_n h10, up_n h11]
theorem rgP.row {g : Nat × Nat × Nat × Nat} {ρ ρ1 : St} {k : Nat} {r : Int} (h : rgP g ρ ρ1 k r) {q : Nat} (h5 : q ≠ 5) : ρ1 q = ρ q := by
  rcases h with ⟨-, rfl, -⟩ | ⟨a, d, -, -, -, -, -, rfl⟩
  · rfl
  · exact upr_n h5
theorem STR.row {g : Nat × Nat × Nat × Nat} {ρ ρ' : St} {j : Nat} {n room : Int} (h : STR g ρ ρ' j n room) {q : Nat} (hq : q = 0 ∨ (12 < q ∧ q < 18) ∨ 20 < q) : ρ' q = ρ q := by
  rcases h with ⟨-, rfl⟩ | ⟨h, o, -, -, -, -, -, ⟨-, rfl⟩ | ⟨-, r, ρ1, h1, ⟨-, rfl⟩ | ⟨a, -, ⟨-, rfl⟩ | ⟨-, o2, -, -, ⟨-, rfl⟩ | ⟨-, b, ρ2, h2, rfl⟩⟩⟩⟩⟩
  · rfl
  · rfl
  · rfl
  · rw [stF.row (by omega) (by omega) (by omega) (by omega), MAK.row (by omega) (by omega) (by omega) (by omega) (by omega) (by omega) (by omega), h1.row (by omega)]
  · rw [upr_n (by omega), h1.row (by omega)]
  · rw [stF.row (by omega) (by omega) (by omega) (by omega), MAK.row (by omega) (by omega) (by omega) (by omega) (by omega) (by omega) (by omega), up_n (by omega), up_n (by omega), h2.row (by omega), h1.row (by omega)]
theorem QL.row {ρ ρ' : St} {q : List Int} (h : QL ρ q) (h0 : ρ' 0 22 = ρ 0 22) (h1 : ρ' 21 = ρ 21) : QL ρ' q := by
  unfold QL
  rw [h0, h1]; exact h
theorem QL.turn {ρ ρ1 : St} {q' : List Int} {j : Nat} (h : QL ρ ((j : Int) :: q')) (h1 : ∀ i, i + 1 < q'.length + 1 → ρ1 21 i = ρ 21 (i + 1)) (h2 : ∀ n, n ≠ 21 → ρ1 n = ρ n) : QTN ρ (up ρ1 21 q'.length (j : Int)) q' j := by
  obtain ⟨a1, a2, a3⟩ := h
  rw [List.length_cons] at a1 a2 a3
  refine ⟨⟨?_, ?_, ?_⟩, fun n hn => by rw [up_n hn]; exact h2 n hn⟩
  · rw [up_n (by decide), h2 0 (by decide), a1, List.length_append]; rfl
  · rw [List.length_append]; exact a2
  · intro k hk
    rw [List.length_append, List.length_singleton] at hk
    rw [up_s]
    by_cases c : k = q'.length
    · rw [c, zup_s, List.getElem?_append_right (Nat.le_refl _), Nat.sub_self]; rfl
    · rw [zup_n c, h1 k (by omega), List.getElem?_append_left (by omega)]
      have := a3 (k + 1) (by omega)
      rwa [List.getElem?_cons_succ] at this
set_option maxHeartbeats 4000000 in
set_option maxRecDepth 100000 in
theorem rp_tickT {p : Program} {l : Launch} {e : Env} {R : Room} {s : State} {m : MethodId} {args : Array Value} {below : List Frame} {meth : Method} {c : Code} {D : va_G} {ad : Nat → Nat} {Q : State → Prop} (C : Fx p s m args meth c D ad cX6_tick 3 (some .int) yX6_tick.cls tb) (ρ : St) (j : Nat) (hj : j < 12) (q' : List Int) (hQ : QL ρ ((j : Int) :: q')) (K : ∀ (ρ' : St), QTN ρ ρ' q' j → ∀ i2 : Int, X p l e R s m args below meth c D ad 3 Q (rc D ad ρ') 157 [(2, vi i2), (1, vi (j : Int)), (0, .ref (ad 0))] []) : X p l e R s m args below meth c D ad 3 Q (rc D ad ρ) 115 [(1, vi (j : Int)), (0, .ref (ad 0))] [] := by
  refine x_iconst C dX6_tick_115 ?_
  refine x_istore_n C (lv' := [(2, _), (1, _), (0, _)]) dX6_tick_116 rfl (by decide) rfl ?_
  have hQ0 := hQ
  obtain ⟨a1, a2, a3⟩ := hQ
  rw [List.length_cons] at a1 a2 a3
  refine rp_turn C ρ (q'.length + 1) j (by omega) a1 (fun ρ1 i2 g1 g2 => ?_) 20 1 (by omega) (by omega) ρ (fun i hi => absurd hi (by omega)) (fun i hi => rfl) (fun n hn => rfl)
  refine x_aload_n C dX6_tick_145 rfl rfl ?_
  refine x_get C (Cn := RX6) (T := TX6) (N := 33) (ci := 6) 21 dX6_tick_146 m_w_6 m_f_RX6_63 rfl (by decide) rfl rfl ?_
  refine x_aload_n C dX6_tick_149 rfl rfl ?_
  refine x_get C (Cn := RX6) (T := TX6) (N := 33) (ci := 6) 22 dX6_tick_150 m_w_6 m_f_RX6_101 rfl (by decide) rfl rfl ?_
  rw [g2 0 (by decide), a1]
  refine x_iconst C dX6_tick_153 ?_
  refine x_isub C dX6_tick_154 ?_
  refine x_iload_n C dX6_tick_155 rfl rfl ?_
  refine r_ast C dX6_tick_156 (fun _ => rfl) (by omega) (by omega) ?_
  rw [show (((q'.length + 1 : Nat) : Int) - 1).toNat = q'.length by omega]
  exact K _ (hQ0.turn g1 g2) i2
set_option maxHeartbeats 4000000 in
set_option maxRecDepth 100000 in
theorem rp_tickE {p : Program} {l : Launch} {e : Env} {R : Room} {s : State} {m : MethodId} {args : Array Value} {below : List Frame} {meth : Method} {c : Code} {D : va_G} {ad : Nat → Nat} {Q : State → Prop} (C : Fx p s m args meth c D ad cX6_tick 3 (some .int) yX6_tick.cls tb) {g : Nat × Nat × Nat × Nat} (hg : 3 ≤ g.1 ∧ g.1 ≤ 11 ∧ 8 ≤ g.2.1 ∧ g.2.1 ≤ 2048 ∧ 1 ≤ g.2.2.1 ∧ g.2.2.1 ≤ 24 ∧ 1 ≤ g.2.2.2 ∧ g.2.2.2 ≤ 12) (hnp : g.2.1 = 2 ^ g.1) (ρ : St) (hs : RS g ρ) (hM : MI g.1 (ρ 5)) (q : List Int) (hq : QL ρ q) (hqr : ∀ x ∈ q, 0 ≤ x ∧ x < 12) (j a b m0 h : Nat) (hj : j < 12) (hlt : a < 24 ∧ b < 24 ∧ m0 < 24 ∧ h < 24) (e18 : ρ 18 j = h) (e14 : ρ 14 j = a) (e15 : ρ 15 j = b) (hm : (ρ 13 j = 3 ∧ ρ 16 j = m0) ∨ (ρ 13 j ≠ 3 ∧ ρ 16 j = -1)) (hB : RBL g ρ j) (hR : 2 ≤ R.frames ∧ 100 ≤ R.locals) (K : ∀ ρ' : St, LEV g (up (up (up (up ρ 11 h 0) 10 h 0) 17 j 0) 12 j 2) ρ' q j a b m0 → X p l e R s m args below meth c D ad 3 Q (rc D ad ρ') 113 [(2, vi (h : Int)), (1, vi (j : Int)), (0, .ref (ad 0))] []) : X p l e R s m args below meth c D ad 3 Q (rc D ad ρ) 73 [(1, vi (j : Int)), (0, .ref (ad 0))] [] := by
  refine x_aload_n C dX6_tick_73 rfl rfl ?_
  refine x_get C (Cn := RX6) (T := TX6) (N := 33) (ci := 6) 18 dX6_tick_74 m_w_6 m_f_RX6_54 rfl (by decide) rfl rfl ?_
  refine x_iload_n C dX6_tick_77 rfl rfl ?_
  refine x_iald C dX6_tick_78 rfl ⟨by omega, by omega⟩ (by omega) ?_
  rw [Int.toNat_natCast]
  rw [e18]
  refine x_istore_n C (lv' := [(2, _), (1, _), (0, _)]) dX6_tick_79 rfl (by decide) rfl ?_
  refine x_aload_n C dX6_tick_80 rfl rfl ?_
  refine x_get C (Cn := RX6) (T := TX6) (N := 33) (ci := 6) 11 dX6_tick_81 m_w_6 m_f_RX6_32 rfl (by decide) rfl rfl ?_
  refine x_iload_n C dX6_tick_84 rfl rfl ?_
  refine x_iconst C dX6_tick_85 ?_
  refine r_astz C dX6_tick_86 (fun _ => rfl) (by omega) (by omega) (by omega) ?_
  rw [Int.toNat_natCast]
  refine x_aload_n C dX6_tick_87 rfl rfl ?_
  refine x_get C (Cn := RX6) (T := TX6) (N := 33) (ci := 6) 10 dX6_tick_88 m_w_6 m_f_RX6_29 rfl (by decide) rfl rfl ?_
  refine x_iload_n C dX6_tick_91 rfl rfl ?_
  refine x_iconst C dX6_tick_92 ?_
  refine r_ast C dX6_tick_93 (fun _ => rfl) (by omega) (by omega) ?_
  rw [Int.toNat_natCast]
  refine x_aload_n C dX6_tick_94 rfl rfl ?_
  refine x_get C (Cn := RX6) (T := TX6) (N := 33) (ci := 6) 17 dX6_tick_95 m_w_6 m_f_RX6_50 rfl (by decide) rfl rfl ?_
  refine x_iload_n C dX6_tick_98 rfl rfl ?_
  refine x_lconst0 C dX6_tick_99 ?_
  refine r_astl C dX6_tick_100 (fun _ => rfl) (by omega) (by omega) ?_
  rw [Int.toNat_natCast]
  refine x_aload_n C dX6_tick_101 rfl rfl ?_
  refine x_get C (Cn := RX6) (T := TX6) (N := 33) (ci := 6) 12 dX6_tick_102 m_w_6 m_f_RX6_35 rfl (by decide) rfl rfl ?_
  refine x_iload_n C dX6_tick_105 rfl rfl ?_
  refine x_iconst C dX6_tick_106 ?_
  refine r_ast C dX6_tick_107 (fun _ => rfl) (by omega) (by omega) ?_
  rw [Int.toNat_natCast]
  refine x_aload_n C dX6_tick_108 rfl rfl ?_
  refine x_iload_n C dX6_tick_109 rfl rfl ?_
  refine x_callV C (ci := 6) (nn := 1) (r_leave hg hnp (up (up (up (up ρ 11 h 0) 10 h 0) 17 j 0) 12 j 2) ⟨hs.1, hs.2.1, hs.2.2⟩ hM q (hq.row rfl rfl) hqr j a b m0 hj ⟨hlt.1, hlt.2.1, hlt.2.2.1⟩ e14 e15 hm hB) g_RX6_168 rfl (by decide +kernel) ⟨by first | decide | omega, by first | decide | omega⟩ rfl rfl rfl rfl rfl (Nat.le_of_ble_eq_true rfl) dX6_tick_110 (fun v h1 hp => ?_)
  obtain ⟨ρ1, rfl, rfl, hL⟩ := hp
  exact K _ hL
set_option maxHeartbeats 4000000 in
set_option maxRecDepth 100000 in
theorem r_tick {l : Launch} {D : va_G} {ad : Nat → Nat} {g : Nat × Nat × Nat × Nat} (hg : 3 ≤ g.1 ∧ g.1 ≤ 11 ∧ 8 ≤ g.2.1 ∧ g.2.1 ≤ 2048 ∧ 1 ≤ g.2.2.1 ∧ g.2.2.1 ≤ 24 ∧ 1 ≤ g.2.2.2 ∧ g.2.2.2 ≤ 12) (hnp : g.2.1 = 2 ^ g.1) (ρ : St) (q : List Int) (hP : TPr g ρ q) : Rt l D ad yX6_tick (Cond.code yX6_tick cX6_tick 3 (some .int) :: tb) 6 280 [.ref (ad 0)] ρ (fun v ρ' => ∃ r : Int, v = some (vi r) ∧ TR g ρ ρ' q r) := by
  refine ct_of (by decide) rfl (Nat.le_of_ble_eq_true rfl) ?_
  intro p e s m below meth c C
  change X _ _ _ _ _ _ _ _ _ _ _ _ _ _ _ _ [(0, .ref (ad 0))] _
  obtain ⟨hs, hF, hL, hM, hQ, hqr, hqu, hj⟩ := hP
  have hQ0 := hQ
  obtain ⟨a1, a2, a3⟩ := hQ
  refine x_aload_n C dX6_tick_0 rfl rfl ?_
  refine x_get C (Cn := RX6) (T := TX6) (N := 33) (ci := 6) 22 dX6_tick_1 m_w_6 m_f_RX6_101 rfl (by decide) rfl rfl ?_
  rw [a1]
  refine x_if_ne (tgt := 9) C dX6_tick_4 (by decide) (by omega) (fun c_4 => ?_) (fun c_4 => ?_)
  · obtain ⟨x, q', rfl⟩ : ∃ x q', q = x :: q' := by
      cases q with
      | nil => exact absurd rfl c_4
      | cons x q' => exact ⟨x, q', rfl⟩
    obtain ⟨j, rfl, hj12, hJ⟩ := hj _ _ rfl
    have e21 : ρ 21 0 = (j : Int) := by
      have := a3 0 (by simp)
      rw [List.getElem?_cons_zero] at this
      exact (Option.some.inj this).symm
    have hst : ρ 12 j = 0 ∨ ρ 12 j = 1 := by
      rcases hJ with h | h
      · exact Or.inl h.1
      · exact Or.inr h.1
    refine x_aload_n C dX6_tick_9 rfl rfl ?_
    refine x_get C (Cn := RX6) (T := TX6) (N := 33) (ci := 6) 21 dX6_tick_10 m_w_6 m_f_RX6_63 rfl (by decide) rfl rfl ?_
    refine x_iconst C dX6_tick_13 ?_
    refine x_iald C dX6_tick_14 rfl (by omega) (by omega) ?_
    rw [show (0 : Int).toNat = 0 from rfl, e21]
    refine x_istore_n C (lv' := [(1, _), (0, _)]) dX6_tick_15 rfl (by decide) rfl ?_
    refine x_aload_n C dX6_tick_16 rfl rfl ?_
    refine x_dup C dX6_tick_17 rfl ?_
    refine x_get C (Cn := RX6) (T := TX6) (N := 33) (ci := 6) 23 dX6_tick_18 m_w_6 m_f_RX6_104 rfl (by decide) rfl rfl ?_
    refine x_iconst C dX6_tick_21 ?_
    refine x_iadd C dX6_tick_22 ?_
    refine r_put C 23 (by decide) (by decide) dX6_tick_23 m_f_RX6_104 rfl (by decide +kernel) ?_
    refine x_aload_n C dX6_tick_26 rfl rfl ?_
    refine x_get C (Cn := RX6) (T := TX6) (N := 33) (ci := 6) 12 dX6_tick_27 m_w_6 m_f_RX6_35 rfl (by decide) rfl rfl ?_
    refine x_iload_n C dX6_tick_30 rfl rfl ?_
    refine x_iald C dX6_tick_31 rfl (by omega) (by omega) ?_
    rw [Int.toNat_natCast, up_n (by decide)]
    refine x_if_ne (tgt := 43) C dX6_tick_32 (by decide) (by omega) (fun c_32 => ?_) (fun c_32 => ?_)
    · obtain ⟨-, hwk, ⟨a, b, m0, h, Aa, na, Ab, nb, Am, nm, Ar, nr, hK⟩, hB⟩ : RJ1 g ρ j := by
        rcases hJ with h | h
        · exact absurd h.1 (by omega)
        · exact h
      refine x_aload_n C dX6_tick_43 rfl rfl ?_
      refine x_get C (Cn := RX6) (T := TX6) (N := 33) (ci := 6) 17 dX6_tick_44 m_w_6 m_f_RX6_50 rfl (by decide) rfl rfl ?_
      refine x_iload_n C dX6_tick_47 rfl rfl ?_
      refine x_dup2 C dX6_tick_48 rfl rfl ?_
      refine x_lald C dX6_tick_49 rfl (by omega) (by omega) ?_
      rw [Int.toNat_natCast, up_n (by decide)]
      refine x_aload_n C dX6_tick_50 rfl rfl ?_
      refine x_get C (Cn := RX6) (T := TX6) (N := 33) (ci := 6) 3 dX6_tick_51 m_w_6 m_f_RX6_95 rfl (by decide) rfl rfl ?_
      rw [up_s, zup_n (by decide)]
      refine x_i2l C dX6_tick_54 (by omega) ?_
      refine x_lsub C dX6_tick_55 ?_
      refine r_astl C dX6_tick_56 (fun _ => rfl) (by omega) (by omega) ?_
      rw [Int.toNat_natCast]
      refine x_aload_n C dX6_tick_57 rfl rfl ?_
      refine x_get C (Cn := RX6) (T := TX6) (N := 33) (ci := 6) 17 dX6_tick_58 m_w_6 m_f_RX6_50 rfl (by decide) rfl rfl ?_
      refine x_iload_n C dX6_tick_61 rfl rfl ?_
      refine x_lald C dX6_tick_62 rfl (by omega) (by omega) ?_
      rw [Int.toNat_natCast, up_s, zup_s]
      refine x_lconst0 C dX6_tick_63 ?_
      refine x_lif_gt (tgt := 115) C dX6_tick_64 dX6_tick_65 (by decide) (by omega) (by omega) (fun c_64 => ?_) (fun c_64 => ?_)
      · refine rp_tickT C _ j hj12 q' (hQ0.row (by rw [up_n (by decide), up_s, zup_n (by decide)]) (by rw [up_n (by decide), up_n (by decide)])) (fun ρ' hT i2 => ?_)
        refine x_iload_n C dX6_tick_157 rfl rfl ?_
        exact x_iret C dX6_tick_158 ⟨_, rfl, _, rfl, Or.inr ⟨j, q', rfl, rfl, hj12, Or.inr (Or.inl ⟨by omega, by omega, hT⟩)⟩⟩
      · refine x_aload_n C dX6_tick_68 rfl rfl ?_
        refine x_iload_n C dX6_tick_69 rfl rfl ?_
        have hK0 := hK
        obtain ⟨ho, e18, e14, e15, hlt, ⟨A1, A2, A3⟩, ⟨B1, B2, B3⟩, ⟨H1, H2, H3⟩, hm, hb1, hf0, hf1, hfit⟩ := hK
        have go : ∀ ρc : St, RRP (up (up ρ 0 23 (ρ 0 23 + 1)) 17 j (ρ 17 j - ρ 0 3)) ρc Ar nr (opV (ρ 13 j) (nv (ρ 4) Aa na) (nv (ρ 4) Ab nb) (nv (ρ 4) Am nm)) → X p l e { frames := 6, cells := 0, slots := 0, locals := 280 } s m [Value.ref (ad 0)].toArray below meth c D ad 3 (MQ below (Qx D ad (fun v h1 => ∃ ρ' : St, h1 = rc D ad ρ' ∧ ∃ r : Int, v = some (vi r) ∧ TR g ρ ρ' ((j : Int) :: q') r)) [Value.ref (ad 0)].toArray s 0 0 (aA ad)) (rc D ad ρc) 73 [(1, vi (j : Int)), (0, .ref (ad 0))] [] := by
          intro ρc hR
          have r5 : ∀ q, q ≠ 0 → q ≠ 4 → q ≠ 17 → q ≠ 24 → q ≠ 25 → q ≠ 26 → q ≠ 27 → q ≠ 28 → ρc q = ρ q := fun q n0 n4 n17 n24 n25 n26 n27 n28 => by rw [hR.2.2.2.1 q n0 n4 n24 n25 n26 n27 n28, up_n n17, up_n n0]
          have r0 : ∀ k, k < 23 → ρc 0 k = ρ 0 k := fun k hk => by rw [hR.2.2.2.2 k (by omega), up_n (by decide), up_s, zup_n (by omega)]
          refine rp_tickE C hg hnp ρc ⟨by rw [r0 0 (by decide)]; exact hs.1, by rw [r0 1 (by decide)]; exact hs.2.1, by rw [r0 2 (by decide)]; exact hs.2.2⟩ (by rw [r5 5 (by decide) (by decide) (by decide) (by decide) (by decide) (by decide) (by decide) (by decide)]; exact hM) ((j : Int) :: q') (hQ0.row (r0 22 (by decide)) (r5 21 (by decide) (by decide) (by decide) (by decide) (by decide) (by decide) (by decide) (by decide))) hqr j a b m0 h hj12 hlt (by rw [r5 18 (by decide) (by decide) (by decide) (by decide) (by decide) (by decide) (by decide) (by decide)]; exact e18) (by rw [r5 14 (by decide) (by decide) (by decide) (by decide) (by decide) (by decide) (by decide) (by decide)]; exact e14) (by rw [r5 15 (by decide) (by decide) (by decide) (by decide) (by decide) (by decide) (by decide) (by decide)]; exact e15) ?_ ?_ ⟨by decide, by decide⟩ (fun ρ' hLv => ?_)
          · rw [r5 13 (by decide) (by decide) (by decide) (by decide) (by decide) (by decide) (by decide) (by decide), r5 16 (by decide) (by decide) (by decide) (by decide) (by decide) (by decide) (by decide) (by decide)]
            rcases hm with ⟨x1, x2, -⟩ | x
            · exact Or.inl ⟨x1, x2⟩
            · exact Or.inr x
          · unfold RBL
            rw [r5 19 (by decide) (by decide) (by decide) (by decide) (by decide) (by decide) (by decide) (by decide), r5 20 (by decide) (by decide) (by decide) (by decide) (by decide) (by decide) (by decide) (by decide), r5 5 (by decide) (by decide) (by decide) (by decide) (by decide) (by decide) (by decide) (by decide)]
            exact hB
          · refine x_iload_n C dX6_tick_113 rfl rfl ?_
            exact x_iret C dX6_tick_114 ⟨_, rfl, _, rfl, Or.inr ⟨j, q', rfl, rfl, hj12, Or.inr (Or.inr ⟨by omega, by omega, a, b, m0, h, Aa, na, Ab, nb, Am, nm, Ar, nr, ρc, hK0, hR, hLv⟩)⟩⟩
        rcases (show ρ 13 j = 0 ∨ ρ 13 j = 1 ∨ ρ 13 j = 2 ∨ ρ 13 j = 3 by omega) with hop | hop | hop | hop
        · refine x_callV C (ci := 6) (nn := 1) (r_reckon0 (up (up ρ 0 23 (ρ 0 23 + 1)) 17 j (ρ 17 j - ρ 0 3)) hL j a b h Aa na Ab nb Ar nr hj12 hop e18 e14 e15 ⟨hlt.1, hlt.2.1, hlt.2.2.2⟩ A1 A2 A3 B1 B2 B3 H1 H2 H3 (hf0 hop)) g_RX6_165 rfl (by decide +kernel) ⟨by first | decide | omega, by first | decide | omega⟩ rfl rfl rfl rfl rfl (Nat.le_of_ble_eq_true rfl) dX6_tick_70 (fun v h1 hp => ?_)
          obtain ⟨ρc, rfl, rfl, hR⟩ := hp
          refine go ρc ?_
          rw [hop]
          exact hR
        · refine x_callV C (ci := 6) (nn := 1) (r_reckon1 (up (up ρ 0 23 (ρ 0 23 + 1)) 17 j (ρ 17 j - ρ 0 3)) hL j a b h Aa na Ab nb Ar nr hj12 hop e18 e14 e15 ⟨hlt.1, hlt.2.1, hlt.2.2.2⟩ A1 A2 A3 B1 B2 B3 H1 H2 H3 (hb1 hop) (hf1 hop)) g_RX6_165 rfl (by decide +kernel) ⟨by first | decide | omega, by first | decide | omega⟩ rfl rfl rfl rfl rfl (Nat.le_of_ble_eq_true rfl) dX6_tick_70 (fun v h1 hp => ?_)
          obtain ⟨ρc, rfl, rfl, hR⟩ := hp
          refine go ρc ?_
          rw [hop]
          exact hR
        · refine x_callV C (ci := 6) (nn := 1) (r_reckon2 (up (up ρ 0 23 (ρ 0 23 + 1)) 17 j (ρ 17 j - ρ 0 3)) hL j a b h Aa na Ab nb Ar nr hj12 hop e18 e14 e15 ⟨hlt.1, hlt.2.1, hlt.2.2.2⟩ A1 A2 A3 B1 B2 B3 H1 H2 H3 (by rw [show opV (ρ 13 j) (nv (ρ 4) Aa na) (nv (ρ 4) Ab nb) (nv (ρ 4) Am nm) = gd (nv (ρ 4) Aa na) (nv (ρ 4) Ab nb) by rw [hop]; rfl] at hfit; exact hfit)) g_RX6_165 rfl (by decide +kernel) ⟨by first | decide | omega, by first | decide | omega⟩ rfl rfl rfl rfl rfl (Nat.le_of_ble_eq_true rfl) dX6_tick_70 (fun v h1 hp => ?_)
          obtain ⟨ρc, rfl, rfl, hR⟩ := hp
          refine go ρc ?_
          rw [hop]
          exact hR
        · obtain ⟨x1, x2, x3, x4, x5, x6⟩ : ρ 13 j = 3 ∧ ρ 16 j = m0 ∧ ρ 8 m0 = Am ∧ ρ 7 m0 = nm ∧ Am + nm ≤ 2048 ∧ nv (ρ 4) Am nm ≠ 0 := by
            rcases hm with x | x
            · exact x
            · exact absurd hop x.1
          have hfit2 : nv (ρ 4) Aa na ^ (nv (ρ 4) Ab nb).toNat % nv (ρ 4) Am nm < 2147483648 ^ nr := by
            rw [show opV (ρ 13 j) (nv (ρ 4) Aa na) (nv (ρ 4) Ab nb) (nv (ρ 4) Am nm) = nv (ρ 4) Aa na ^ (nv (ρ 4) Ab nb).toNat % nv (ρ 4) Am nm by rw [hop]; rfl] at hfit
            exact hfit
          refine x_callV C (ci := 6) (nn := 1) (r_reckon3 (up (up ρ 0 23 (ρ 0 23 + 1)) 17 j (ρ 17 j - ρ 0 3)) hL j a b m0 h Aa na Ab nb Am nm Ar nr hj12 hop e18 e14 e15 x2 ⟨hlt.1, hlt.2.1, hlt.2.2.1, hlt.2.2.2⟩ A1 A2 A3 B1 B2 B3 x3 x4 x5 x6 H1 H2 H3 hfit2) g_RX6_165 rfl (by decide +kernel) ⟨by first | decide | omega, by first | decide | omega⟩ rfl rfl rfl rfl rfl (Nat.le_of_ble_eq_true rfl) dX6_tick_70 (fun v h1 hp => ?_)
          obtain ⟨ρc, rfl, rfl, hR⟩ := hp
          refine go ρc ?_
          rw [hop]
          exact hR
    · obtain ⟨-, a, b, m0, sa, sb, sm, hJF, hpos⟩ : RJ0 ρ j := by
        rcases hJ with h | h
        · exact h
        · exact absurd h.1 (by omega)
      refine x_aload_n C dX6_tick_35 rfl rfl ?_
      refine x_iload_n C dX6_tick_36 rfl rfl ?_
      refine x_callV C (ci := 6) (nn := 1) (r_start hg hnp (up ρ 0 23 (ρ 0 23 + 1)) ⟨hs.1, hs.2.1, hs.2.2⟩ hF hM j a b m0 sa sb sm hj12 hJF hpos) g_RX6_162 rfl (by decide +kernel) ⟨by first | decide | omega, by first | decide | omega⟩ rfl rfl rfl rfl rfl (Nat.le_of_ble_eq_true rfl) dX6_tick_37 (fun v h1 hp => ?_)
      obtain ⟨ρb, rfl, rfl, hS⟩ := hp
      refine x_goto (tgt := 115) C dX6_tick_40 (by decide) ?_
      refine rp_tickT C ρb j hj12 q' (hQ0.row (by rw [hS.row (Or.inl rfl), up_s, zup_n (by decide)]) (by rw [hS.row (Or.inr (Or.inr (by decide))), up_n (by decide)])) (fun ρ' hT i2 => ?_)
      refine x_iload_n C dX6_tick_157 rfl rfl ?_
      exact x_iret C dX6_tick_158 ⟨_, rfl, _, rfl, Or.inr ⟨j, q', rfl, rfl, hj12, Or.inl ⟨by omega, a, b, m0, sa, sb, sm, ρb, hJF, hS, hT⟩⟩⟩
  · refine x_iconst C dX6_tick_7 ?_
    exact x_iret C dX6_tick_8 ⟨_, rfl, _, rfl, Or.inl ⟨List.length_eq_zero_iff.mp (by omega), rfl, rfl⟩⟩
