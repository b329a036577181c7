/-! CAN BOTH BE GIVEN -/
def lft (σ : St) (k h o : Int) : Int := σ 3 o.toNat + (if o = h then -1 else if k ≤ o ∧ o < h then 1 else 0)
def cgP (σ : St) (pl : Nat) (k k2 : Int) : Prop := ∃ h : Int, lfo σ pl k h ∧ h ≠ -1 ∧ (k2 = -1 ∨ ∃ o : Int, k2 ≤ o ∧ o ≤ pl ∧ 0 < lft σ k h o)
theorem lfo_u {σ : St} {pl : Nat} {a r r' : Int} (h : lfo σ pl a r) (h' : lfo σ pl a r') : r = r' := by
  rcases h with ⟨h1, h2⟩ | ⟨h1, h2, h3, h4⟩ <;> rcases h' with ⟨g1, g2⟩ | ⟨g1, g2, g3, g4⟩
  · omega
  · exact absurd g3 (h2 r' g1 g2)
  · exact absurd h3 (g2 r h1 h2)
  · rcases Int.lt_trichotomy r r' with q | q | q
    · exact absurd h3 (g4 r h1 q)
    · exact q
    · exact absurd g3 (h4 r' g1 q)
set_option maxHeartbeats 4000000 in
set_option maxRecDepth 100000 in
theorem lp_canGive {p : Program} {l : Launch} {e : Env} {R : Room} {s : State} {m : MethodId} {args : Array Value} {below : List Frame} {meth : Method} {c : Code} {D : va_G} {ad : Nat → Nat} {g : Nat × Nat × Nat × Nat} {Q : State → Prop} (C : Fx p s m args meth c D ad cX1_canGive 6 (some .boolean) yX1_canGive.cls tb) (hg : 3 ≤ g.1 ∧ g.1 ≤ 11 ∧ 8 ≤ g.2.1 ∧ g.2.1 ≤ 2048 ∧ 1 ≤ g.2.2.1 ∧ g.2.2.1 ≤ 24 ∧ 1 ≤ g.2.2.2 ∧ g.2.2.2 ≤ 12) (σ : St) (hF : ∀ k : Nat, k ≤ g.1 → 0 ≤ σ 3 k ∧ σ 3 k ≤ 2048) (k k2 h : Int) (hk : 0 ≤ k ∧ k ≤ 64) (hk2 : 0 ≤ k2 ∧ k2 ≤ 64) (hh : -1 ≤ h ∧ h ≤ 64) (K1 : ∀ (o : Int) lv, k2 ≤ o → o ≤ g.1 → 0 < lft σ k h o → X p l e R s m args below meth c D ad 6 Q (kc D ad g σ) 81 lv [vi 1]) (K0 : ∀ lv, (∀ o : Int, k2 ≤ o → o ≤ g.1 → ¬ 0 < lft σ k h o) → X p l e R s m args below meth c D ad 6 Q (kc D ad g σ) 89 lv [vi 0]) (n : Nat) (z : Int) (hz : k2 ≤ z ∧ z ≤ 65) (hn : 66 - z ≤ n) (hb : ∀ o : Int, k2 ≤ o → o < z → ¬ 0 < lft σ k h o) : X p l e R s m args below meth c D ad 6 Q (kc D ad g σ) 30 [(4, vi z), (3, vi h), (0, .ref (ad 1)), (1, vi k), (2, vi k2)] [] := by
  induction n generalizing z with
  | zero => omega
  | succ n ih =>
  refine x_iload C dX1_canGive_30 rfl ?_
  refine x_aload_n C dX1_canGive_32 rfl rfl ?_
  refine x_get C (Cn := RX1) (T := TX1) (N := 4) (ci := 1) 0 dX1_canGive_33 m_w_1 m_f_RX1_9 rfl (by decide) rfl rfl ?_
  refine x_icmp_gt (tgt := 88) C dX1_canGive_36 (by decide) (by omega) (by omega) (fun c_36 => ?_) (fun c_36 => ?_)
  · refine x_iconst C dX1_canGive_88 ?_
    exact K0 _ (fun o h1 h2 => hb o h1 (by omega))
  · refine x_aload_n C dX1_canGive_39 rfl rfl ?_
    refine x_get C (Cn := RX1) (T := TX1) (N := 4) (ci := 1) 2 dX1_canGive_40 m_w_1 m_f_RX1_19 rfl (by decide) rfl rfl ?_
    refine x_iload C dX1_canGive_43 rfl ?_
    have hFz := hF z.toNat (by omega)
    refine x_iald C dX1_canGive_45 rfl (by omega) (by omega) ?_
    refine x_istore C (lv' := [(5, _), (4, _), (3, _), (0, _), (1, _), (2, _)]) dX1_canGive_46 (by decide) rfl ?_
    refine x_iload C dX1_canGive_48 rfl ?_
    refine x_iload_n C dX1_canGive_50 rfl rfl ?_
    refine x_icmp_ne (tgt := 60) C dX1_canGive_51 (by decide) (by omega) (by omega) (fun c_51 => ?_) (fun c_51 => ?_)
    · refine x_iload C dX1_canGive_60 rfl ?_
      refine x_iload_n C dX1_canGive_62 rfl rfl ?_
      refine x_icmp_lt (tgt := 75) C dX1_canGive_63 (by decide) (by omega) (by omega) (fun c_63 => ?_) (fun c_63 => ?_)
      · refine x_iload C dX1_canGive_75 rfl ?_
        refine x_if_le (tgt := 82) C dX1_canGive_77 (by decide) (by omega) (fun c_77 => ?_) (fun c_77 => ?_)
        · refine x_iinc C (lv' := [(4, _), (5, _), (3, _), (0, _), (1, _), (2, _)]) dX1_canGive_82 rfl (by decide) rfl ?_
          refine x_goto (tgt := 30) C dX1_canGive_85 (by decide) ?_
          refine X.sub [0, 2, 3, 4, 5] rfl ?_
          exact ih _ (by omega) (by omega) (fun o h1 h2 => if q : o < z then hb o h1 q else by rw [show o = z by omega]; unfold lft; split <;> first | omega | (split <;> omega))
        · refine x_iconst C dX1_canGive_80 ?_
          exact K1 z _ (by omega) (by omega) (by unfold lft; split <;> first | omega | (split <;> omega))
      · refine x_iload C dX1_canGive_66 rfl ?_
        refine x_iload_n C dX1_canGive_68 rfl rfl ?_
        refine x_icmp_ge (tgt := 75) C dX1_canGive_69 (by decide) (by omega) (by omega) (fun c_69 => ?_) (fun c_69 => ?_)
        · refine x_iload C dX1_canGive_75 rfl ?_
          refine x_if_le (tgt := 82) C dX1_canGive_77 (by decide) (by omega) (fun c_77 => ?_) (fun c_77 => ?_)
          · refine x_iinc C (lv' := [(4, _), (5, _), (3, _), (0, _), (1, _), (2, _)]) dX1_canGive_82 rfl (by decide) rfl ?_
            refine x_goto (tgt := 30) C dX1_canGive_85 (by decide) ?_
            refine X.sub [0, 2, 3, 4, 5] rfl ?_
            exact ih _ (by omega) (by omega) (fun o h1 h2 => if q : o < z then hb o h1 q else by rw [show o = z by omega]; unfold lft; split <;> first | omega | (split <;> omega))
          · refine x_iconst C dX1_canGive_80 ?_
            exact K1 z _ (by omega) (by omega) (by unfold lft; split <;> first | omega | (split <;> omega))
        · refine x_iinc C (lv' := [(5, _), (4, _), (3, _), (0, _), (1, _), (2, _)]) dX1_canGive_72 rfl (by decide) rfl ?_
          refine x_iload C dX1_canGive_75 rfl ?_
          refine x_if_le (tgt := 82) C dX1_canGive_77 (by decide) (by omega) (fun c_77 => ?_) (fun c_77 => ?_)
          · refine x_iinc C (lv' := [(4, _), (5, _), (3, _), (0, _), (1, _), (2, _)]) dX1_canGive_82 rfl (by decide) rfl ?_
            refine x_goto (tgt := 30) C dX1_canGive_85 (by decide) ?_
            refine X.sub [0, 2, 3, 4, 5] rfl ?_
            exact ih _ (by omega) (by omega) (fun o h1 h2 => if q : o < z then hb o h1 q else by rw [show o = z by omega]; unfold lft; split <;> first | omega | (split <;> omega))
          · refine x_iconst C dX1_canGive_80 ?_
            exact K1 z _ (by omega) (by omega) (by unfold lft; split <;> first | omega | (split <;> omega))
    · refine x_iinc C (lv' := [(5, _), (4, _), (3, _), (0, _), (1, _), (2, _)]) dX1_canGive_54 rfl (by decide) rfl ?_
      refine x_goto (tgt := 75) C dX1_canGive_57 (by decide) ?_
      refine x_iload C dX1_canGive_75 rfl ?_
      refine x_if_le (tgt := 82) C dX1_canGive_77 (by decide) (by omega) (fun c_77 => ?_) (fun c_77 => ?_)
      · refine x_iinc C (lv' := [(4, _), (5, _), (3, _), (0, _), (1, _), (2, _)]) dX1_canGive_82 rfl (by decide) rfl ?_
        refine x_goto (tgt := 30) C dX1_canGive_85 (by decide) ?_
        refine X.sub [0, 2, 3, 4, 5] rfl ?_
        exact ih _ (by omega) (by omega) (fun o h1 h2 => if q : o < z then hb o h1 q else by rw [show o = z by omega]; unfold lft; split <;> first | omega | (split <;> omega))
      · refine x_iconst C dX1_canGive_80 ?_
        exact K1 z _ (by omega) (by omega) (by unfold lft; split <;> first | omega | (split <;> omega))
set_option maxHeartbeats 4000000 in
set_option maxRecDepth 100000 in
theorem c_canGive {l : Launch} {D : va_G} {ad : Nat → Nat} {g : Nat × Nat × Nat × Nat} (hg : 3 ≤ g.1 ∧ g.1 ≤ 11 ∧ 8 ≤ g.2.1 ∧ g.2.1 ≤ 2048 ∧ 1 ≤ g.2.2.1 ∧ g.2.2.1 ≤ 24 ∧ 1 ≤ g.2.2.2 ∧ g.2.2.2 ≤ 12) (σ : St) (hF : ∀ k : Nat, k ≤ g.1 → 0 ≤ σ 3 k ∧ σ 3 k ≤ 2048) (k k2 : Int) (hk : 0 ≤ k ∧ k ≤ 64) (hk2 : -1 ≤ k2 ∧ k2 ≤ 64) : Kt l D ad g yX1_canGive (Cond.code yX1_canGive cX1_canGive 6 (some .boolean) :: tb) 1 40 [.ref (ad 1), vi k, vi k2] σ (fun v σ' => σ = σ' ∧ ((cgP σ g.1 k k2 ∧ v = some (vi 1)) ∨ (¬ cgP σ g.1 k k2 ∧ v = some (vi 0)))) := by
  refine ct_of (by decide) rfl (Nat.le_of_ble_eq_true rfl) ?_
  intro p e s m below meth c C
  change X _ _ _ _ _ _ _ _ _ _ _ _ _ _ _ _ [(0, .ref (ad 1)), (1, vi k), (2, vi k2)] _
  refine x_aload_n C dX1_canGive_0 rfl rfl ?_
  refine x_iload_n C dX1_canGive_1 rfl rfl ?_
  refine x_callV C (ci := 1) (nn := 1) (c_leastFreeOrder hg σ hF k hk) g_RX1_38 rfl (by decide +kernel) ⟨by first | decide | omega, by first | decide | omega⟩ rfl rfl rfl rfl rfl (Nat.le_of_ble_eq_true rfl) dX1_canGive_2 (fun v h1 hp => ?_)
  obtain ⟨σ1, rfl, rfl, r, rfl, hr⟩ := hp
  have hrr : -1 ≤ r ∧ r ≤ 64 := by rcases hr with ⟨h1, -⟩ | ⟨h1, h2, -⟩ <;> omega
  refine x_istore_n C (lv' := [(3, _), (0, _), (1, _), (2, _)]) dX1_canGive_5 rfl (by decide) rfl ?_
  refine x_iload_n C dX1_canGive_6 rfl rfl ?_
  refine x_iconst C dX1_canGive_7 ?_
  refine x_icmp_eq (tgt := 16) C dX1_canGive_8 (by decide) (by omega) (by omega) (fun c_8 => ?_) (fun c_8 => ?_)
  · refine x_iload_n C dX1_canGive_16 rfl rfl ?_
    refine x_iconst C dX1_canGive_17 ?_
    refine x_icmp_eq (tgt := 25) C dX1_canGive_18 (by decide) (by omega) (by omega) (fun c_18 => ?_) (fun c_18 => ?_)
    · refine x_iconst C dX1_canGive_25 ?_
      exact x_zret C dX1_canGive_26 (by decide) ⟨_, rfl, rfl, by
          first
          | exact Or.inl ⟨⟨r, hr, by omega, Or.inl (by omega)⟩, rfl⟩
          | exact Or.inr ⟨fun ⟨h, h1, h2, _⟩ => h2 ((lfo_u h1 hr).trans (by omega)), rfl⟩⟩
    · refine x_iconst C dX1_canGive_21 ?_
      refine x_goto (tgt := 26) C dX1_canGive_22 (by decide) ?_
      exact x_zret C dX1_canGive_26 (by decide) ⟨_, rfl, rfl, by
          first
          | exact Or.inl ⟨⟨r, hr, by omega, Or.inl (by omega)⟩, rfl⟩
          | exact Or.inr ⟨fun ⟨h, h1, h2, _⟩ => h2 ((lfo_u h1 hr).trans (by omega)), rfl⟩⟩
  · refine x_iload_n C dX1_canGive_11 rfl rfl ?_
    refine x_iconst C dX1_canGive_12 ?_
    refine x_icmp_ne (tgt := 27) C dX1_canGive_13 (by decide) (by omega) (by omega) (fun c_13 => ?_) (fun c_13 => ?_)
    · refine x_iload_n C dX1_canGive_27 rfl rfl ?_
      refine x_istore C (lv' := [(4, _), (3, _), (0, _), (1, _), (2, _)]) dX1_canGive_28 (by decide) rfl ?_
      refine lp_canGive C hg σ hF k k2 r hk (by omega) hrr ?_ ?_ 66 k2 (by omega) (by omega) (fun o h1 h2 => by omega)
      · intro o lv h1 h2 h3
        exact x_zret C dX1_canGive_81 (by decide) ⟨_, rfl, rfl, Or.inl ⟨⟨r, hr, by omega, Or.inr ⟨o, h1, h2, h3⟩⟩, rfl⟩⟩
      · intro lv h1
        refine x_zret C dX1_canGive_89 (by decide) ⟨_, rfl, rfl, Or.inr ⟨?_, rfl⟩⟩
        rintro ⟨h, e1, e2, e3 | ⟨o, e3, e4, e5⟩⟩
        · omega
        · rw [lfo_u e1 hr] at e5; exact h1 o e3 e4 e5
    · refine x_iload_n C dX1_canGive_16 rfl rfl ?_
      refine x_iconst C dX1_canGive_17 ?_
      refine x_icmp_eq (tgt := 25) C dX1_canGive_18 (by decide) (by omega) (by omega) (fun c_18 => ?_) (fun c_18 => ?_)
      · refine x_iconst C dX1_canGive_25 ?_
        exact x_zret C dX1_canGive_26 (by decide) ⟨_, rfl, rfl, by
            first
            | exact Or.inl ⟨⟨r, hr, by omega, Or.inl (by omega)⟩, rfl⟩
            | exact Or.inr ⟨fun ⟨h, h1, h2, _⟩ => h2 ((lfo_u h1 hr).trans (by omega)), rfl⟩⟩
      · refine x_iconst C dX1_canGive_21 ?_
        refine x_goto (tgt := 26) C dX1_canGive_22 (by decide) ?_
        exact x_zret C dX1_canGive_26 (by decide) ⟨_, rfl, rfl, by
            first
            | exact Or.inl ⟨⟨r, hr, by omega, Or.inl (by omega)⟩, rfl⟩
            | exact Or.inr ⟨fun ⟨h, h1, h2, _⟩ => h2 ((lfo_u h1 hr).trans (by omega)), rfl⟩⟩
