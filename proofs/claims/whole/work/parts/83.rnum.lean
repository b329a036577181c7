/-! THE REFERENCE: a limb, counts, beginning, numbers that come and go -/
def LMr (ρ : St) : Prop := ∀ i, i < 2048 → 0 ≤ ρ 4 i ∧ ρ 4 i < 2147483648
def bCount (ρ : St) (w k : Int) : Int := if w = 0 then cnt (ρ 6) 1 24 else if w = 1 then cnt (isg (ρ 12)) 1 12 else if w = 2 then ρ 0 22 else if w = 3 then ρ 0 23 else if w = 4 then (if 0 ≤ k ∧ k < ρ 0 22 then ρ 21 k.toNat else -1) else -1
def BEG (ρ ρ' : St) : Prop := (∀ a, a < 2048 → ρ' 5 a = if a = 0 then ρ 0 0 else -1) ∧ (∀ a, a < 2048 → ρ' 4 a = 0) ∧ (∀ h, h < 24 → ρ' 6 h = 0 ∧ ρ' 11 h = 0 ∧ ρ' 10 h = 0) ∧ (∀ j, j < 12 → ρ' 12 j = -1) ∧ ρ' 0 = zup (zup (ρ 0) 22 0) 23 0 ∧ ∀ q, q ≠ 0 → q ≠ 4 → q ≠ 5 → q ≠ 6 → q ≠ 10 → q ≠ 11 → q ≠ 12 → ρ' q = ρ q
def clr (s f : Nat → Int) (h : Int) (n : Nat) : Nat → Int := fun j => if j < n ∧ 0 ≤ s j ∧ f j = h then -1 else f j
/-- a number goes -/
def GO (g : Nat × Nat × Nat × Nat) (ρ : St) (h A o : Nat) : St := upr (upr (up (up ρ 6 h 0) 11 h 0) 5 (jnF g.1 12 (ρ 5) A o)) 18 (clr (ρ 12) (ρ 18) h 12)
def rnP (g : Nat × Nat × Nat × Nat) (ρ ρ' : St) (n v : Int) : Prop := (¬ (1 ≤ n ∧ n ≤ g.2.1) ∧ v = -2 ∧ ρ = ρ') ∨ ((1 ≤ n ∧ n ≤ g.2.1) ∧ (((∀ k, k < g.2.2.1 → ¬ ρ 6 k = 0) ∧ v = -3 ∧ ρ = ρ') ∨
  ∃ h o : Nat, h < g.2.2.1 ∧ ρ 6 h = 0 ∧ (∀ i, i < h → ¬ ρ 6 i = 0) ∧ ordP n o ∧ o ≤ 17 ∧ ∃ (r : Int) (ρ1 : St), rgP g ρ ρ1 o r ∧ ((r = -1 ∧ v = -4 ∧ ρ = ρ') ∨ (∃ a : Nat, r = a ∧ v = h ∧ ρ' = MAK ρ1 h n.toNat a o))))
theorem ord_u {n : Int} {a b : Nat} (h : ordP n a) (h' : ordP n b) : a = b := by
  rcases Nat.lt_or_ge a b with q | q
  · have := h'.2 a q; have := h.1; omega
  · rcases Nat.lt_or_ge b a with q2 | q2
    · have := h.2 b q2; have := h'.1; omega
    · omega
set_option maxHeartbeats 4000000 in
set_option maxRecDepth 100000 in
theorem r_setLimb {l : Launch} {D : va_G} {ad : Nat → Nat} {g : Nat × Nat × Nat × Nat} (hg : 3 ≤ g.1 ∧ g.1 ≤ 11 ∧ 8 ≤ g.2.1 ∧ g.2.1 ≤ 2048 ∧ 1 ≤ g.2.2.1 ∧ g.2.2.1 ≤ 24 ∧ 1 ≤ g.2.2.2 ∧ g.2.2.2 ≤ 12) (ρ : St) (hs : RS g ρ) (hF : RF ρ) (hU : RN_ ρ) (h i w : Int) (rg_h : -2147483648 ≤ h ∧ h < 2147483648) (rg_i : -2147483648 ≤ i ∧ i < 2147483648) (rg_w : -2147483648 ≤ w ∧ w < 2147483648) : Rt l D ad yX6_setLimb (Cond.code yX6_setLimb cX6_setLimb 5 (some .boolean) :: tb) 1 40 [.ref (ad 0), vi h, vi i, vi w] ρ (fun v ρ' => (bSet g ρ h i w ∧ v = some (vi 1) ∧ ρ' = up ρ 4 (ρ 8 h.toNat + i).toNat w) ∨ (¬ bSet g ρ h i w ∧ v = some (vi 0) ∧ ρ = ρ')) := by
  refine ct_of (by decide) rfl (Nat.le_of_ble_eq_true rfl) ?_
  intro p e s m below meth c C
  change X _ _ _ _ _ _ _ _ _ _ _ _ _ _ _ _ [(0, .ref (ad 0)), (1, vi h), (2, vi i), (3, vi w)] _
  refine x_aload_n C dX6_setLimb_0 rfl rfl ?_
  refine x_iload_n C dX6_setLimb_1 rfl rfl ?_
  refine x_callV C (ci := 6) (nn := 1) (r_isThere hg ρ hs hF h rg_h) g_RX6_131 rfl (by decide +kernel) ⟨by first | decide | omega, by first | decide | omega⟩ rfl rfl rfl rfl rfl (Nat.le_of_ble_eq_true rfl) dX6_setLimb_2 (fun v h1 hp => ?_)
  obtain ⟨ρ1, rfl, rfl, x, rfl, hx⟩ := hp
  have hxr : 0 ≤ x ∧ x ≤ 1 := by rcases hx with ⟨h, -⟩ | ⟨h, -⟩ <;> omega
  refine x_if_eq (tgt := 16) C dX6_setLimb_5 (by decide) (by omega) (fun c_5 => ?_) (fun c_5 => ?_)
  · rcases hx with ⟨h1, -⟩ | ⟨-, hN⟩
    · omega
    refine x_iconst C dX6_setLimb_16 ?_
    refine x_istore C (lv' := [(4, _), (0, _), (1, _), (2, _), (3, _)]) dX6_setLimb_17 (by decide) rfl ?_
    refine x_iload C dX6_setLimb_19 rfl ?_
    refine x_if_eq (tgt := 51) C dX6_setLimb_21 (by decide) (by omega) (fun _ => ?_) (fun q => absurd rfl q)
    refine x_iconst C dX6_setLimb_51 ?_
    refine x_istore C (lv' := [(4, _), (0, _), (1, _), (2, _), (3, _)]) dX6_setLimb_52 (by decide) rfl ?_
    refine x_iload C dX6_setLimb_54 rfl ?_
    refine x_if_eq (tgt := 73) C dX6_setLimb_56 (by decide) (by omega) (fun _ => ?_) (fun q => absurd rfl q)
    refine x_iload C dX6_setLimb_73 rfl ?_
    refine x_zret C dX6_setLimb_75 (by omega) ⟨_, rfl, Or.inr ⟨?_, rfl, rfl⟩⟩
    exact fun q => hN q.1
  · rcases hx with ⟨-, hN⟩ | ⟨h0, -⟩
    rotate_left
    · exact absurd h0 c_5
    obtain ⟨n, rfl, hn, h6⟩ := id hN
    obtain ⟨A, z, hA, hz, hAz, hp0⟩ := hU n (by omega) h6
    refine x_iload_n C dX6_setLimb_8 rfl rfl ?_
    refine x_if_lt (tgt := 16) C dX6_setLimb_9 (by decide) (by omega) (fun c_9 => ?_) (fun c_9 => ?_)
    · refine x_iconst C dX6_setLimb_16 ?_
      refine x_istore C (lv' := [(4, _), (0, _), (1, _), (2, _), (3, _)]) dX6_setLimb_17 (by decide) rfl ?_
      refine x_iload C dX6_setLimb_19 rfl ?_
      refine x_if_eq (tgt := 51) C dX6_setLimb_21 (by decide) (by omega) (fun _ => ?_) (fun q => absurd rfl q)
      refine x_iconst C dX6_setLimb_51 ?_
      refine x_istore C (lv' := [(4, _), (0, _), (1, _), (2, _), (3, _)]) dX6_setLimb_52 (by decide) rfl ?_
      refine x_iload C dX6_setLimb_54 rfl ?_
      refine x_if_eq (tgt := 73) C dX6_setLimb_56 (by decide) (by omega) (fun _ => ?_) (fun q => absurd rfl q)
      refine x_iload C dX6_setLimb_73 rfl ?_
      refine x_zret C dX6_setLimb_75 (by omega) ⟨_, rfl, Or.inr ⟨?_, rfl, rfl⟩⟩
      exact fun q => by have := q.2.1; omega
    · refine x_iconst C dX6_setLimb_12 ?_
      refine x_goto (tgt := 17) C dX6_setLimb_13 (by decide) ?_
      refine x_istore C (lv' := [(4, _), (0, _), (1, _), (2, _), (3, _)]) dX6_setLimb_17 (by decide) rfl ?_
      refine x_iload C dX6_setLimb_19 rfl ?_
      refine x_if_eq (tgt := 51) C dX6_setLimb_21 (by decide) (by omega) (fun c_21 => ?_) (fun c_21 => ?_)
      · omega
      · refine x_aload_n C dX6_setLimb_24 rfl rfl ?_
        refine x_get C (Cn := RX6) (T := TX6) (N := 33) (ci := 6) 10 dX6_setLimb_25 m_w_6 m_f_RX6_29 rfl (by decide) rfl rfl ?_
        refine x_iload_n C dX6_setLimb_28 rfl rfl ?_
        refine x_iald C dX6_setLimb_29 rfl (by omega) (by omega) ?_
        rw [Int.toNat_natCast]
        refine x_if_ne (tgt := 51) C dX6_setLimb_30 (by decide) (by omega) (fun c_30 => ?_) (fun c_30 => ?_)
        · refine x_iconst C dX6_setLimb_51 ?_
          refine x_istore C (lv' := [(4, _), (0, _), (1, _), (2, _), (3, _)]) dX6_setLimb_52 (by decide) rfl ?_
          refine x_iload C dX6_setLimb_54 rfl ?_
          refine x_if_eq (tgt := 73) C dX6_setLimb_56 (by decide) (by omega) (fun _ => ?_) (fun q => absurd rfl q)
          refine x_iload C dX6_setLimb_73 rfl ?_
          refine x_zret C dX6_setLimb_75 (by omega) ⟨_, rfl, Or.inr ⟨?_, rfl, rfl⟩⟩
          exact fun q => by have := q.2.2.1; rw [Int.toNat_natCast] at this; omega
        · refine x_iload_n C dX6_setLimb_33 rfl rfl ?_
          refine x_if_lt (tgt := 51) C dX6_setLimb_34 (by decide) (by omega) (fun c_34 => ?_) (fun c_34 => ?_)
          · refine x_iconst C dX6_setLimb_51 ?_
            refine x_istore C (lv' := [(4, _), (0, _), (1, _), (2, _), (3, _)]) dX6_setLimb_52 (by decide) rfl ?_
            refine x_iload C dX6_setLimb_54 rfl ?_
            refine x_if_eq (tgt := 73) C dX6_setLimb_56 (by decide) (by omega) (fun _ => ?_) (fun q => absurd rfl q)
            refine x_iload C dX6_setLimb_73 rfl ?_
            refine x_zret C dX6_setLimb_75 (by omega) ⟨_, rfl, Or.inr ⟨?_, rfl, rfl⟩⟩
            exact fun q => by have := q.2.2.2.1; omega
          · refine x_iload_n C dX6_setLimb_37 rfl rfl ?_
            refine x_aload_n C dX6_setLimb_38 rfl rfl ?_
            refine x_get C (Cn := RX6) (T := TX6) (N := 33) (ci := 6) 7 dX6_setLimb_39 m_w_6 m_f_RX6_20 rfl (by decide) rfl rfl ?_
            refine x_iload_n C dX6_setLimb_42 rfl rfl ?_
            refine x_iald C dX6_setLimb_43 rfl (by omega) (by omega) ?_
            rw [Int.toNat_natCast, hz]
            refine x_icmp_ge (tgt := 51) C dX6_setLimb_44 (by decide) (by omega) (by omega) (fun c_44 => ?_) (fun c_44 => ?_)
            · refine x_iconst C dX6_setLimb_51 ?_
              refine x_istore C (lv' := [(4, _), (0, _), (1, _), (2, _), (3, _)]) dX6_setLimb_52 (by decide) rfl ?_
              refine x_iload C dX6_setLimb_54 rfl ?_
              refine x_if_eq (tgt := 73) C dX6_setLimb_56 (by decide) (by omega) (fun _ => ?_) (fun q => absurd rfl q)
              refine x_iload C dX6_setLimb_73 rfl ?_
              refine x_zret C dX6_setLimb_75 (by omega) ⟨_, rfl, Or.inr ⟨?_, rfl, rfl⟩⟩
              exact fun q => by have := q.2.2.2.2; rw [Int.toNat_natCast, hz] at this; omega
            · refine x_iconst C dX6_setLimb_47 ?_
              refine x_goto (tgt := 52) C dX6_setLimb_48 (by decide) ?_
              refine x_istore C (lv' := [(4, _), (0, _), (1, _), (2, _), (3, _)]) dX6_setLimb_52 (by decide) rfl ?_
              refine x_iload C dX6_setLimb_54 rfl ?_
              refine x_if_eq (tgt := 73) C dX6_setLimb_56 (by decide) (by omega) (fun c_56 => ?_) (fun c_56 => ?_)
              · omega
              · refine x_aload_n C dX6_setLimb_59 rfl rfl ?_
                refine x_get C (Cn := RX6) (T := TX6) (N := 33) (ci := 6) 4 dX6_setLimb_60 m_w_6 m_f_RX6_7 rfl (by decide) rfl rfl ?_
                refine x_aload_n C dX6_setLimb_63 rfl rfl ?_
                refine x_get C (Cn := RX6) (T := TX6) (N := 33) (ci := 6) 8 dX6_setLimb_64 m_w_6 m_f_RX6_23 rfl (by decide) rfl rfl ?_
                refine x_iload_n C dX6_setLimb_67 rfl rfl ?_
                refine x_iald C dX6_setLimb_68 rfl (by omega) (by omega) ?_
                refine x_iload_n C dX6_setLimb_69 rfl rfl ?_
                rw [Int.toNat_natCast, hA]
                refine x_iadd C dX6_setLimb_70 ?_
                refine x_iload_n C dX6_setLimb_71 rfl rfl ?_
                refine r_ast C dX6_setLimb_72 (fun _ => rfl) (by omega) (by omega) ?_
                refine x_iload C dX6_setLimb_73 rfl ?_
                exact x_zret C dX6_setLimb_75 (by omega) ⟨_, rfl, Or.inl ⟨⟨hN, by omega, by rw [Int.toNat_natCast]; omega, by omega, by rw [Int.toNat_natCast, hz]; omega⟩, rfl, by first | rfl | rw [Int.toNat_natCast, hA]⟩⟩
set_option maxHeartbeats 4000000 in
set_option maxRecDepth 100000 in
theorem r_count {l : Launch} {D : va_G} {ad : Nat → Nat} {g : Nat × Nat × Nat × Nat} (hg : 3 ≤ g.1 ∧ g.1 ≤ 11 ∧ 8 ≤ g.2.1 ∧ g.2.1 ≤ 2048 ∧ 1 ≤ g.2.2.1 ∧ g.2.2.1 ≤ 24 ∧ 1 ≤ g.2.2.2 ∧ g.2.2.2 ≤ 12) (ρ : St) (hF : RF ρ) (hq : 0 ≤ ρ 0 22 ∧ ρ 0 22 ≤ 12) (w k : Int) (rg_w : -2147483648 ≤ w ∧ w < 2147483648) (rg_k : -2147483648 ≤ k ∧ k < 2147483648) : Rt l D ad yX6_count (Cond.code yX6_count cX6_count 3 (some .int) :: tb) 1 40 [.ref (ad 0), vi w, vi k] ρ (fun v ρ' => ρ = ρ' ∧ v = some (vi (bCount ρ w k))) := by
  refine ct_of (by decide) rfl (Nat.le_of_ble_eq_true rfl) ?_
  intro p e s m below meth c C
  change X _ _ _ _ _ _ _ _ _ _ _ _ _ _ _ _ [(0, .ref (ad 0)), (1, vi w), (2, vi k)] _
  refine x_iload_n C dX6_count_0 rfl rfl ?_
  rcases (show (w < 0 ∨ 4 < w) ∨ w = 0 ∨ w = 1 ∨ w = 2 ∨ w = 3 ∨ w = 4 by omega) with c_1 | c_1 | c_1 | c_1 | c_1 | c_1
  · refine x_tableOut (tgt := 79) C dX6_count_1 (by omega) c_1 (by decide) ?_
    refine x_iconst C dX6_count_79 ?_
    exact x_iret C dX6_count_80 ⟨_, rfl, rfl, by rw [bCount, if_neg (by omega), if_neg (by omega), if_neg (by omega), if_neg (by omega), if_neg (by omega)]⟩
  · refine x_tableIn (off := 35) (tgt := 36) C dX6_count_1 (by omega) (by omega) (by omega) (by rw [c_1]; rfl) (by decide) ?_
    refine x_aload_n C dX6_count_36 rfl rfl ?_
    refine x_callV C (ci := 6) (nn := 0) (r_handlesInUse ρ hF.1) g_RX6_107 rfl (by decide +kernel) ⟨by first | decide | omega, by first | decide | omega⟩ rfl rfl rfl rfl rfl (Nat.le_of_ble_eq_true rfl) dX6_count_37 (fun v h1 hp => ?_)
    obtain ⟨ρ1, rfl, rfl, rfl⟩ := hp
    exact x_iret C dX6_count_40 ⟨_, rfl, rfl, by subst c_1; rfl⟩
  · refine x_tableIn (off := 40) (tgt := 41) C dX6_count_1 (by omega) (by omega) (by omega) (by rw [c_1]; rfl) (by decide) ?_
    refine x_aload_n C dX6_count_41 rfl rfl ?_
    refine x_callV C (ci := 6) (nn := 0) (r_jobsThere ρ hF.2.2) g_RX6_111 rfl (by decide +kernel) ⟨by first | decide | omega, by first | decide | omega⟩ rfl rfl rfl rfl rfl (Nat.le_of_ble_eq_true rfl) dX6_count_42 (fun v h1 hp => ?_)
    obtain ⟨ρ1, rfl, rfl, rfl⟩ := hp
    exact x_iret C dX6_count_45 ⟨_, rfl, rfl, by subst c_1; rfl⟩
  · refine x_tableIn (off := 45) (tgt := 46) C dX6_count_1 (by omega) (by omega) (by omega) (by rw [c_1]; rfl) (by decide) ?_
    refine x_aload_n C dX6_count_46 rfl rfl ?_
    refine x_get C (Cn := RX6) (T := TX6) (N := 33) (ci := 6) 22 dX6_count_47 m_w_6 m_f_RX6_101 rfl (by decide) rfl rfl ?_
    exact x_iret C dX6_count_50 ⟨_, rfl, rfl, by subst c_1; rfl⟩
  · refine x_tableIn (off := 50) (tgt := 51) C dX6_count_1 (by omega) (by omega) (by omega) (by rw [c_1]; rfl) (by decide) ?_
    refine x_aload_n C dX6_count_51 rfl rfl ?_
    refine x_get C (Cn := RX6) (T := TX6) (N := 33) (ci := 6) 23 dX6_count_52 m_w_6 m_f_RX6_104 rfl (by decide) rfl rfl ?_
    exact x_iret C dX6_count_55 ⟨_, rfl, rfl, by subst c_1; rfl⟩
  · refine x_tableIn (off := 55) (tgt := 56) C dX6_count_1 (by omega) (by omega) (by omega) (by rw [c_1]; rfl) (by decide) ?_
    refine x_iload_n C dX6_count_56 rfl rfl ?_
    refine x_if_lt (tgt := 77) C dX6_count_57 (by decide) (by omega) (fun c_57 => ?_) (fun c_57 => ?_)
    · refine x_iconst C dX6_count_77 ?_
      exact x_iret C dX6_count_78 ⟨_, rfl, rfl, by subst c_1; show _ = some (vi (if 0 ≤ k ∧ k < ρ 0 22 then ρ 21 k.toNat else -1)); first | rw [if_pos (by omega)] | rw [if_neg (by omega)]⟩
    · refine x_iload_n C dX6_count_60 rfl rfl ?_
      refine x_aload_n C dX6_count_61 rfl rfl ?_
      refine x_get C (Cn := RX6) (T := TX6) (N := 33) (ci := 6) 22 dX6_count_62 m_w_6 m_f_RX6_101 rfl (by decide) rfl rfl ?_
      refine x_icmp_ge (tgt := 77) C dX6_count_65 (by decide) (by omega) (by omega) (fun c_65 => ?_) (fun c_65 => ?_)
      · refine x_iconst C dX6_count_77 ?_
        exact x_iret C dX6_count_78 ⟨_, rfl, rfl, by subst c_1; show _ = some (vi (if 0 ≤ k ∧ k < ρ 0 22 then ρ 21 k.toNat else -1)); first | rw [if_pos (by omega)] | rw [if_neg (by omega)]⟩
      · refine x_aload_n C dX6_count_68 rfl rfl ?_
        refine x_get C (Cn := RX6) (T := TX6) (N := 33) (ci := 6) 21 dX6_count_69 m_w_6 m_f_RX6_63 rfl (by decide) rfl rfl ?_
        refine x_iload_n C dX6_count_72 rfl rfl ?_
        refine x_iald C dX6_count_73 rfl (by omega) (by omega) ?_
        refine x_goto (tgt := 78) C dX6_count_74 (by decide) ?_
        exact x_iret C dX6_count_78 ⟨_, rfl, rfl, by subst c_1; show _ = some (vi (if 0 ≤ k ∧ k < ρ 0 22 then ρ 21 k.toNat else -1)); first | rw [if_pos (by omega)] | rw [if_neg (by omega)]⟩
set_option maxHeartbeats 4000000 in
set_option maxRecDepth 100000 in
theorem rp_begin1 {p : Program} {l : Launch} {e : Env} {R : Room} {s : State} {m : MethodId} {args : Array Value} {below : List Frame} {meth : Method} {c : Code} {D : va_G} {ad : Nat → Nat} {Q : State → Prop} (C : Fx p s m args meth c D ad cX6_begin 2 none yX6_begin.cls tb) (ρ : St) (K : ∀ (ρ1 : St) (i : Int), (∀ a, a < 2048 → ρ1 5 a = -1 ∧ ρ1 4 a = 0) → (∀ q, q ≠ 4 → q ≠ 5 → ρ1 q = ρ q) → X p l e R s m args below meth c D ad 2 Q (rc D ad ρ1) 29 [(1, vi i), (0, .ref (ad 0))] []) (n i : Nat) (hn : 2048 - i < n) (hi : i ≤ 2048) (ρ1 : St) (h1 : ∀ a, a < i → ρ1 5 a = -1 ∧ ρ1 4 a = 0) (h2 : ∀ q, q ≠ 4 → q ≠ 5 → ρ1 q = ρ q) : X p l e R s m args below meth c D ad 2 Q (rc D ad ρ1) 2 [(1, vi (i : Int)), (0, .ref (ad 0))] [] := by
  induction n generalizing i ρ1 with
  | zero => omega
  | succ n ih =>
  refine x_iload_n C dX6_begin_2 rfl rfl ?_
  refine x_sipush C (z := 2048) dX6_begin_3 (by decide) ?_
  refine x_icmp_ge (tgt := 29) C dX6_begin_6 (by decide) (by omega) (by omega) (fun c_6 => ?_) (fun c_6 => ?_)
  · obtain rfl : i = 2048 := by omega
    exact K ρ1 _ h1 h2
  · refine x_aload_n C dX6_begin_9 rfl rfl ?_
    refine x_get C (Cn := RX6) (T := TX6) (N := 33) (ci := 6) 5 dX6_begin_10 m_w_6 m_f_RX6_13 rfl (by decide) rfl rfl ?_
    refine x_iload_n C dX6_begin_13 rfl rfl ?_
    refine x_iconst C dX6_begin_14 ?_
    refine r_ast C dX6_begin_15 (fun _ => rfl) (by omega) (by omega) ?_
    refine x_aload_n C dX6_begin_16 rfl rfl ?_
    refine x_get C (Cn := RX6) (T := TX6) (N := 33) (ci := 6) 4 dX6_begin_17 m_w_6 m_f_RX6_7 rfl (by decide) rfl rfl ?_
    refine x_iload_n C dX6_begin_20 rfl rfl ?_
    refine x_iconst C dX6_begin_21 ?_
    refine r_ast C dX6_begin_22 (fun _ => rfl) (by omega) (by omega) ?_
    refine x_iinc C (lv' := [(1, _), (0, _)]) dX6_begin_23 rfl (by decide) rfl ?_
    refine x_goto (tgt := 2) C dX6_begin_26 (by decide) ?_
    rw [show (i : Int) + 1 = ((i + 1 : Nat) : Int) by omega]
    refine ih (i + 1) (by omega) (by omega) _ ?_ (fun q h4 h5 => by rw [up_n h4, up_n h5]; exact h2 q h4 h5)
    intro a ha
    rw [up_n (by decide), up_s, up_s, up_n (by decide), Int.toNat_natCast]
    by_cases c : a = i
    · rw [c, zup_s, zup_s]; exact ⟨rfl, rfl⟩
    · rw [zup_n c, zup_n c]; exact h1 a (by omega)
set_option maxHeartbeats 4000000 in
set_option maxRecDepth 100000 in
theorem rp_begin2 {p : Program} {l : Launch} {e : Env} {R : Room} {s : State} {m : MethodId} {args : Array Value} {below : List Frame} {meth : Method} {c : Code} {D : va_G} {ad : Nat → Nat} {Q : State → Prop} (C : Fx p s m args meth c D ad cX6_begin 2 none yX6_begin.cls tb) (ρ : St) (K : ∀ (ρ1 : St) (i : Int), (∀ a, a < 24 → ρ1 6 a = 0 ∧ ρ1 11 a = 0 ∧ ρ1 10 a = 0) → (∀ q, q ≠ 6 → q ≠ 11 → q ≠ 10 → ρ1 q = ρ q) → X p l e R s m args below meth c D ad 2 Q (rc D ad ρ1) 74 [(1, vi i), (0, .ref (ad 0))] []) (n i : Nat) (hn : 24 - i < n) (hi : i ≤ 24) (ρ1 : St) (h1 : ∀ a, a < i → ρ1 6 a = 0 ∧ ρ1 11 a = 0 ∧ ρ1 10 a = 0) (h2 : ∀ q, q ≠ 6 → q ≠ 11 → q ≠ 10 → ρ1 q = ρ q) : X p l e R s m args below meth c D ad 2 Q (rc D ad ρ1) 41 [(1, vi (i : Int)), (0, .ref (ad 0))] [] := by
  induction n generalizing i ρ1 with
  | zero => omega
  | succ n ih =>
  refine x_iload_n C dX6_begin_41 rfl rfl ?_
  refine x_bipush C (z := 24) dX6_begin_42 (by decide) ?_
  refine x_icmp_ge (tgt := 74) C dX6_begin_44 (by decide) (by omega) (by omega) (fun c_44 => ?_) (fun c_44 => ?_)
  · obtain rfl : i = 24 := by omega
    exact K ρ1 _ h1 h2
  · refine x_aload_n C dX6_begin_47 rfl rfl ?_
    refine x_get C (Cn := RX6) (T := TX6) (N := 33) (ci := 6) 6 dX6_begin_48 m_w_6 m_f_RX6_16 rfl (by decide) rfl rfl ?_
    refine x_iload_n C dX6_begin_51 rfl rfl ?_
    refine x_iconst C dX6_begin_52 ?_
    refine r_astz C dX6_begin_53 (fun _ => rfl) (by omega) (by omega) (by omega) ?_
    refine x_aload_n C dX6_begin_54 rfl rfl ?_
    refine x_get C (Cn := RX6) (T := TX6) (N := 33) (ci := 6) 11 dX6_begin_55 m_w_6 m_f_RX6_32 rfl (by decide) rfl rfl ?_
    refine x_iload_n C dX6_begin_58 rfl rfl ?_
    refine x_iconst C dX6_begin_59 ?_
    refine r_astz C dX6_begin_60 (fun _ => rfl) (by omega) (by omega) (by omega) ?_
    refine x_aload_n C dX6_begin_61 rfl rfl ?_
    refine x_get C (Cn := RX6) (T := TX6) (N := 33) (ci := 6) 10 dX6_begin_62 m_w_6 m_f_RX6_29 rfl (by decide) rfl rfl ?_
    refine x_iload_n C dX6_begin_65 rfl rfl ?_
    refine x_iconst C dX6_begin_66 ?_
    refine r_ast C dX6_begin_67 (fun _ => rfl) (by omega) (by omega) ?_
    refine x_iinc C (lv' := [(1, _), (0, _)]) dX6_begin_68 rfl (by decide) rfl ?_
    refine x_goto (tgt := 41) C dX6_begin_71 (by decide) ?_
    rw [show (i : Int) + 1 = ((i + 1 : Nat) : Int) by omega]
    refine ih (i + 1) (by omega) (by omega) _ ?_ (fun q h4 h5 h6 => by rw [up_n h6, up_n h5, up_n h4]; exact h2 q h4 h5 h6)
    intro a ha
    rw [up_n (show 6 ≠ 10 by decide), up_n (show 6 ≠ 11 by decide), up_s, up_n (show 11 ≠ 10 by decide), up_s, up_n (show 11 ≠ 6 by decide), up_s, up_n (show 10 ≠ 11 by decide), up_n (show 10 ≠ 6 by decide), Int.toNat_natCast]
    by_cases c : a = i
    · rw [c, zup_s, zup_s, zup_s]; exact ⟨rfl, rfl, rfl⟩
    · rw [zup_n c, zup_n c, zup_n c]; exact h1 a (by omega)
set_option maxHeartbeats 4000000 in
set_option maxRecDepth 100000 in
theorem rp_begin3 {p : Program} {l : Launch} {e : Env} {R : Room} {s : State} {m : MethodId} {args : Array Value} {below : List Frame} {meth : Method} {c : Code} {D : va_G} {ad : Nat → Nat} {Q : State → Prop} (C : Fx p s m args meth c D ad cX6_begin 2 none yX6_begin.cls tb) (ρ : St) (K : ∀ (ρ1 : St) (i : Int), (∀ a, a < 12 → ρ1 12 a = -1) → (∀ q, q ≠ 12 → ρ1 q = ρ q) → X p l e R s m args below meth c D ad 2 Q (rc D ad ρ1) 95 [(1, vi i), (0, .ref (ad 0))] []) (n i : Nat) (hn : 12 - i < n) (hi : i ≤ 12) (ρ1 : St) (h1 : ∀ a, a < i → ρ1 12 a = -1) (h2 : ∀ q, q ≠ 12 → ρ1 q = ρ q) : X p l e R s m args below meth c D ad 2 Q (rc D ad ρ1) 76 [(1, vi (i : Int)), (0, .ref (ad 0))] [] := by
  induction n generalizing i ρ1 with
  | zero => omega
  | succ n ih =>
  refine x_iload_n C dX6_begin_76 rfl rfl ?_
  refine x_bipush C (z := 12) dX6_begin_77 (by decide) ?_
  refine x_icmp_ge (tgt := 95) C dX6_begin_79 (by decide) (by omega) (by omega) (fun c_79 => ?_) (fun c_79 => ?_)
  · obtain rfl : i = 12 := by omega
    exact K ρ1 _ h1 h2
  · refine x_aload_n C dX6_begin_82 rfl rfl ?_
    refine x_get C (Cn := RX6) (T := TX6) (N := 33) (ci := 6) 12 dX6_begin_83 m_w_6 m_f_RX6_35 rfl (by decide) rfl rfl ?_
    refine x_iload_n C dX6_begin_86 rfl rfl ?_
    refine x_iconst C dX6_begin_87 ?_
    refine r_ast C dX6_begin_88 (fun _ => rfl) (by omega) (by omega) ?_
    refine x_iinc C (lv' := [(1, _), (0, _)]) dX6_begin_89 rfl (by decide) rfl ?_
    refine x_goto (tgt := 76) C dX6_begin_92 (by decide) ?_
    rw [show (i : Int) + 1 = ((i + 1 : Nat) : Int) by omega]
    refine ih (i + 1) (by omega) (by omega) _ ?_ (fun q h4 => by rw [up_n h4]; exact h2 q h4)
    intro a ha
    rw [up_s, Int.toNat_natCast]
    by_cases c : a = i
    · rw [c, zup_s]
    · rw [zup_n c]; exact h1 a (by omega)
set_option maxHeartbeats 4000000 in
set_option maxRecDepth 100000 in
theorem r_begin {l : Launch} {D : va_G} {ad : Nat → Nat} (ρ : St) : Rt l D ad yX6_begin (Cond.code yX6_begin cX6_begin 2 none :: tb) 0 0 [.ref (ad 0)] ρ (fun v ρ' => v = none ∧ BEG ρ ρ') := by
  refine ct_of (by decide) rfl (Nat.le_of_ble_eq_true rfl) ?_
  intro p e s m below meth c C
  change X _ _ _ _ _ _ _ _ _ _ _ _ _ _ _ _ [(0, .ref (ad 0))] _
  refine x_iconst C dX6_begin_0 ?_
  refine x_istore_n C (lv' := [(1, _), (0, _)]) dX6_begin_1 rfl (by decide) rfl ?_
  refine rp_begin1 C ρ ?_ 2049 0 (by omega) (by omega) ρ (fun a ha => by omega) (fun q _ _ => rfl)
  intro ρ1 i e1 e2
  refine x_aload_n C dX6_begin_29 rfl rfl ?_
  refine x_get C (Cn := RX6) (T := TX6) (N := 33) (ci := 6) 5 dX6_begin_30 m_w_6 m_f_RX6_13 rfl (by decide) rfl rfl ?_
  refine x_iconst C dX6_begin_33 ?_
  refine x_aload_n C dX6_begin_34 rfl rfl ?_
  refine x_get C (Cn := RX6) (T := TX6) (N := 33) (ci := 6) 0 dX6_begin_35 m_w_6 m_f_RX6_85 rfl (by decide) rfl rfl ?_
  refine r_ast C dX6_begin_38 (fun _ => rfl) (by omega) (by omega) ?_
  refine x_iconst C dX6_begin_39 ?_
  refine x_istore_n C (lv' := [(1, _), (0, _)]) dX6_begin_40 rfl (by decide) rfl ?_
  refine rp_begin2 C _ ?_ 25 0 (by omega) (by omega) _ (fun a ha => by omega) (fun q _ _ _ => rfl)
  intro ρ2 i2 f1 f2
  refine x_iconst C dX6_begin_74 ?_
  refine x_istore_n C (lv' := [(1, _), (0, _)]) dX6_begin_75 rfl (by decide) rfl ?_
  refine rp_begin3 C _ ?_ 13 0 (by omega) (by omega) _ (fun a ha => by omega) (fun q _ => rfl)
  intro ρ3 i3 k1 k2
  refine x_aload_n C dX6_begin_95 rfl rfl ?_
  refine x_iconst C dX6_begin_96 ?_
  refine r_put C 22 (by decide) (by decide) dX6_begin_97 m_f_RX6_101 rfl (by decide +kernel) ?_
  refine x_aload_n C dX6_begin_100 rfl rfl ?_
  refine x_iconst C dX6_begin_101 ?_
  refine r_put C 23 (by decide) (by decide) dX6_begin_102 m_f_RX6_104 rfl (by decide +kernel) ?_
  exact x_vret C dX6_begin_105 ⟨_, rfl, rfl, fun a ha => by
      rw [up_n (by decide), up_n (by decide), k2 _ (by decide), f2 _ (by decide) (by decide) (by decide), up_s]
      by_cases c : a = 0
      · rw [c, if_pos rfl, show ((0 : Int)).toNat = 0 from rfl, zup_s, e2 _ (by decide) (by decide)]
      · rw [if_neg c, show ((0 : Int)).toNat = 0 from rfl, zup_n c]; exact (e1 a ha).1, fun a ha => by
      rw [up_n (by decide), up_n (by decide), k2 _ (by decide), f2 _ (by decide) (by decide) (by decide), up_n (by decide)]; exact (e1 a ha).2, fun h hh => by
      rw [up_n (by decide), up_n (by decide), k2 _ (by decide), up_n (by decide), up_n (by decide), k2 _ (by decide), up_n (by decide), up_n (by decide), k2 _ (by decide)]; exact f1 h hh, fun j hj => by
      rw [up_n (by decide), up_n (by decide)]; exact k1 j hj, by
      rw [up_s, up_s, k2 _ (by decide), f2 _ (by decide) (by decide) (by decide), up_n (by decide), e2 _ (by decide) (by decide)], fun q h0 h4 h5 h6 h10 h11 h12 => by
      rw [up_n h0, up_n h0, k2 _ h12, f2 _ h6 h11 h10, up_n h5, e2 _ h4 h5]⟩
set_option maxHeartbeats 4000000 in
set_option maxRecDepth 100000 in
theorem r_init {l : Launch} {D : va_G} {ad : Nat → Nat} (ρ : St) (hF : RF ρ) : Rt l D ad yX6_init_ (Cond.code yX6_init_ cX6_init_ 2 (some .int) :: tb) 1 40 [.ref (ad 0)] ρ (fun v ρ' => v = some (vi (cnt (ρ 6) 1 24 + cnt (isg (ρ 12)) 1 12)) ∧ BEG ρ ρ') := by
  refine ct_of (by decide) rfl (Nat.le_of_ble_eq_true rfl) ?_
  intro p e s m below meth c C
  change X _ _ _ _ _ _ _ _ _ _ _ _ _ _ _ _ [(0, .ref (ad 0))] _
  refine x_aload_n C dX6_init__0 rfl rfl ?_
  refine x_callV C (ci := 6) (nn := 0) (r_handlesInUse ρ hF.1) g_RX6_107 rfl (by decide +kernel) ⟨by first | decide | omega, by first | decide | omega⟩ rfl rfl rfl rfl rfl (Nat.le_of_ble_eq_true rfl) dX6_init__1 (fun v h1 hp => ?_)
  obtain ⟨ρ1, rfl, rfl, rfl⟩ := hp
  refine x_aload_n C dX6_init__4 rfl rfl ?_
  refine x_callV C (ci := 6) (nn := 0) (r_jobsThere ρ hF.2.2) g_RX6_111 rfl (by decide +kernel) ⟨by first | decide | omega, by first | decide | omega⟩ rfl rfl rfl rfl rfl (Nat.le_of_ble_eq_true rfl) dX6_init__5 (fun v h1 hp => ?_)
  obtain ⟨ρ1, rfl, rfl, rfl⟩ := hp
  refine x_iadd C dX6_init__8 ?_
  refine x_istore_n C (lv' := [(1, _), (0, _)]) dX6_init__9 rfl (by decide) rfl ?_
  refine x_aload_n C dX6_init__10 rfl rfl ?_
  refine x_callV C (ci := 6) (nn := 0) (r_begin ρ) g_RX6_98 rfl (by decide +kernel) ⟨by first | decide | omega, by first | decide | omega⟩ rfl rfl rfl rfl rfl (Nat.le_of_ble_eq_true rfl) dX6_init__11 (fun v h1 hp => ?_)
  obtain ⟨ρ1, rfl, rfl, hB⟩ := hp
  refine x_iload_n C dX6_init__14 rfl rfl ?_
  exact x_iret C dX6_init__15 ⟨_, rfl, rfl, hB⟩
set_option maxHeartbeats 4000000 in
set_option maxRecDepth 100000 in
theorem r_forget {l : Launch} {D : va_G} {ad : Nat → Nat} {g : Nat × Nat × Nat × Nat} (hg : 3 ≤ g.1 ∧ g.1 ≤ 11 ∧ 8 ≤ g.2.1 ∧ g.2.1 ≤ 2048 ∧ 1 ≤ g.2.2.1 ∧ g.2.2.1 ≤ 24 ∧ 1 ≤ g.2.2.2 ∧ g.2.2.2 ≤ 12) (ρ : St) (hs : RS g ρ) (hF : RF ρ) (j : Int) (rg_j : -2147483648 ≤ j ∧ j < 2147483648) : Rt l D ad yX6_forget (Cond.code yX6_forget cX6_forget 2 (some .boolean) :: tb) 1 40 [.ref (ad 0), vi j] ρ (fun v ρ' => (¬ (rJb g ρ j ∧ 2 ≤ ρ 12 j.toNat) ∧ v = some (vi 0) ∧ ρ = ρ') ∨ (v = some (vi 1) ∧ ∃ n : Nat, j = n ∧ n < g.2.2.2 ∧ 2 ≤ ρ 12 n ∧ ρ' = up ρ 12 n (-1))) := by
  refine ct_of (by decide) rfl (Nat.le_of_ble_eq_true rfl) ?_
  intro p e s m below meth c C
  change X _ _ _ _ _ _ _ _ _ _ _ _ _ _ _ _ [(0, .ref (ad 0)), (1, vi j)] _
  refine x_aload_n C dX6_forget_0 rfl rfl ?_
  refine x_iload_n C dX6_forget_1 rfl rfl ?_
  refine x_callV C (ci := 6) (nn := 1) (r_isJob hg ρ hs hF j rg_j) g_RX6_174 rfl (by decide +kernel) ⟨by first | decide | omega, by first | decide | omega⟩ rfl rfl rfl rfl rfl (Nat.le_of_ble_eq_true rfl) dX6_forget_2 (fun v h1 hp => ?_)
  obtain ⟨ρ1, rfl, rfl, x, rfl, hx⟩ := hp
  have hxr : 0 ≤ x ∧ x ≤ 1 := by rcases hx with ⟨h, -⟩ | ⟨h, -⟩ <;> omega
  refine x_if_eq (tgt := 18) C dX6_forget_5 (by decide) (by omega) (fun c_5 => ?_) (fun c_5 => ?_)
  · rcases hx with ⟨h1, -⟩ | ⟨-, hN⟩
    · omega
    refine x_iconst C dX6_forget_18 ?_
    exact x_zret C dX6_forget_19 (by omega) ⟨_, rfl, Or.inl ⟨fun q => hN q.1, rfl, rfl⟩⟩
  · rcases hx with ⟨-, hN⟩ | ⟨h0, -⟩
    rotate_left
    · exact absurd h0 c_5
    obtain ⟨n, rfl, hn, h6⟩ := id hN
    have hf := hF.2.2 n (by omega)
    refine x_aload_n C dX6_forget_8 rfl rfl ?_
    refine x_get C (Cn := RX6) (T := TX6) (N := 33) (ci := 6) 12 dX6_forget_9 m_w_6 m_f_RX6_35 rfl (by decide) rfl rfl ?_
    refine x_iload_n C dX6_forget_12 rfl rfl ?_
    refine x_iald C dX6_forget_13 rfl (by omega) (by omega) ?_
    refine x_iconst C dX6_forget_14 ?_
    rw [Int.toNat_natCast]
    refine x_icmp_ge (tgt := 20) C dX6_forget_15 (by decide) (by omega) (by omega) (fun c_15 => ?_) (fun c_15 => ?_)
    · refine x_aload_n C dX6_forget_20 rfl rfl ?_
      refine x_get C (Cn := RX6) (T := TX6) (N := 33) (ci := 6) 12 dX6_forget_21 m_w_6 m_f_RX6_35 rfl (by decide) rfl rfl ?_
      refine x_iload_n C dX6_forget_24 rfl rfl ?_
      refine x_iconst C dX6_forget_25 ?_
      refine r_ast C dX6_forget_26 (fun _ => rfl) (by omega) (by omega) ?_
      refine x_iconst C dX6_forget_27 ?_
      exact x_zret C dX6_forget_28 (by omega) ⟨_, rfl, Or.inr ⟨rfl, n, rfl, hn, c_15, by rw [Int.toNat_natCast]⟩⟩
    · refine x_iconst C dX6_forget_18 ?_
      exact x_zret C dX6_forget_19 (by omega) ⟨_, rfl, Or.inl ⟨fun q => by have := q.2; (try rw [Int.toNat_natCast] at this); omega, rfl, rfl⟩⟩
set_option maxHeartbeats 4000000 in
set_option maxRecDepth 100000 in
theorem rp_length {p : Program} {l : Launch} {e : Env} {R : Room} {s : State} {m : MethodId} {args : Array Value} {below : List Frame} {meth : Method} {c : Code} {D : va_G} {ad : Nat → Nat} {Q : State → Prop} (C : Fx p s m args meth c D ad cX6_length 3 (some .int) yX6_length.cls tb) (ρ : St) (hL : LMr ρ) (h A z : Nat) (hh : h < 24) (hA : ρ 8 h = A) (hAz : A + z ≤ 2048) (K : ∀ r : Nat, sgP (ρ 4) A z r → X p l e R s m args below meth c D ad 3 Q (rc D ad ρ) 35 [(2, vi (r : Int)), (0, .ref (ad 0)), (1, vi (h : Int))] []) (n i : Nat) (hn : i < n) (hi : i ≤ z) (hb : ∀ k, i ≤ k → k < z → ρ 4 (A + k) = 0) : X p l e R s m args below meth c D ad 3 Q (rc D ad ρ) 7 [(2, vi (i : Int)), (0, .ref (ad 0)), (1, vi (h : Int))] [] := by
  induction n generalizing i with
  | zero => omega
  | succ n ih =>
  refine x_iload_n C dX6_length_7 rfl rfl ?_
  refine x_if_le (tgt := 35) C dX6_length_8 (by decide) (by omega) (fun c_8 => ?_) (fun c_8 => ?_)
  · obtain rfl : i = 0 := by omega
    exact K 0 ⟨by omega, hb, fun q => by omega⟩
  · obtain ⟨i, rfl⟩ : ∃ i1, i = i1 + 1 := ⟨i - 1, by omega⟩
    have hl := hL (A + i) (by omega)
    refine x_aload_n C dX6_length_11 rfl rfl ?_
    refine x_get C (Cn := RX6) (T := TX6) (N := 33) (ci := 6) 4 dX6_length_12 m_w_6 m_f_RX6_7 rfl (by decide) rfl rfl ?_
    refine x_aload_n C dX6_length_15 rfl rfl ?_
    refine x_get C (Cn := RX6) (T := TX6) (N := 33) (ci := 6) 8 dX6_length_16 m_w_6 m_f_RX6_23 rfl (by decide) rfl rfl ?_
    refine x_iload_n C dX6_length_19 rfl rfl ?_
    refine x_iald C dX6_length_20 rfl (by omega) (by omega) ?_
    refine x_iload_n C dX6_length_21 rfl rfl ?_
    rw [Int.toNat_natCast, hA]
    refine x_iadd C dX6_length_22 ?_
    refine x_iconst C dX6_length_23 ?_
    refine x_isub C dX6_length_24 ?_
    refine x_iald C dX6_length_25 rfl (by omega) (by omega) ?_
    rw [show ((A : Int) + ((i + 1 : Nat) : Int) - 1).toNat = A + i by omega]
    refine x_if_ne (tgt := 35) C dX6_length_26 (by decide) (by omega) (fun c_26 => ?_) (fun c_26 => ?_)
    · exact K (i + 1) ⟨hi, hb, fun _ => by rw [Nat.add_sub_cancel]; exact c_26⟩
    · have hz : ρ 4 (A + i) = 0 := by omega
      refine x_iinc C (lv' := [(2, _), (0, _), (1, _)]) dX6_length_29 rfl (by decide) rfl ?_
      refine x_goto (tgt := 7) C dX6_length_32 (by decide) ?_
      rw [show ((i + 1 : Nat) : Int) + -1 = (i : Int) by omega]
      exact ih i (by omega) (by omega) (fun k h1 h2 => if q : k = i then by rw [q]; exact hz else hb k (by omega) h2)
set_option maxHeartbeats 4000000 in
set_option maxRecDepth 100000 in
theorem r_length {l : Launch} {D : va_G} {ad : Nat → Nat} (ρ : St) (hL : LMr ρ) (h A z : Nat) (hh : h < 24) (hA : ρ 8 h = A) (hz : ρ 7 h = z) (hAz : A + z ≤ 2048) : Rt l D ad yX6_length (Cond.code yX6_length cX6_length 3 (some .int) :: tb) 0 0 [.ref (ad 0), vi (h : Int)] ρ (fun v ρ' => ρ = ρ' ∧ ∃ r : Nat, v = some (vi (r : Int)) ∧ sgP (ρ 4) A z r) := by
  refine ct_of (by decide) rfl (Nat.le_of_ble_eq_true rfl) ?_
  intro p e s m below meth c C
  change X _ _ _ _ _ _ _ _ _ _ _ _ _ _ _ _ [(0, .ref (ad 0)), (1, vi (h : Int))] _
  refine x_aload_n C dX6_length_0 rfl rfl ?_
  refine x_get C (Cn := RX6) (T := TX6) (N := 33) (ci := 6) 7 dX6_length_1 m_w_6 m_f_RX6_20 rfl (by decide) rfl rfl ?_
  refine x_iload_n C dX6_length_4 rfl rfl ?_
  refine x_iald C dX6_length_5 rfl (by omega) (by omega) ?_
  rw [Int.toNat_natCast, hz]
  refine x_istore_n C (lv' := [(2, _), (0, _), (1, _)]) dX6_length_6 rfl (by decide) rfl ?_
  refine rp_length C ρ hL h A z hh hA hAz ?_ (z + 1) z (by omega) (by omega) (fun k h1 h2 => by omega)
  intro r hr
  refine x_iload_n C dX6_length_35 rfl rfl ?_
  exact x_iret C dX6_length_36 ⟨_, rfl, rfl, r, rfl, hr⟩
set_option maxHeartbeats 4000000 in
set_option maxRecDepth 100000 in
theorem r_newNumber {l : Launch} {D : va_G} {ad : Nat → Nat} {g : Nat × Nat × Nat × Nat} (hg : 3 ≤ g.1 ∧ g.1 ≤ 11 ∧ 8 ≤ g.2.1 ∧ g.2.1 ≤ 2048 ∧ 1 ≤ g.2.2.1 ∧ g.2.2.1 ≤ 24 ∧ 1 ≤ g.2.2.2 ∧ g.2.2.2 ≤ 12) (hnp : g.2.1 = 2 ^ g.1) (ρ : St) (hs : RS g ρ) (hF : RF ρ) (hM : MI g.1 (ρ 5)) (n : Int) (rg_n : -2147483648 ≤ n ∧ n < 2147483648) : Rt l D ad yX6_newNumber (Cond.code yX6_newNumber cX6_newNumber 4 (some .int) :: tb) 2 80 [.ref (ad 0), vi n] ρ (fun v ρ' => ∃ r : Int, v = some (vi r) ∧ rnP g ρ ρ' n r) := by
  refine ct_of (by decide) rfl (Nat.le_of_ble_eq_true rfl) ?_
  intro p e s m below meth c C
  change X _ _ _ _ _ _ _ _ _ _ _ _ _ _ _ _ [(0, .ref (ad 0)), (1, vi n)] _
  refine x_iload_n C dX6_newNumber_0 rfl rfl ?_
  refine x_iconst C dX6_newNumber_1 ?_
  refine x_icmp_lt (tgt := 13) C dX6_newNumber_2 (by decide) (by omega) (by omega) (fun c_2 => ?_) (fun c_2 => ?_)
  · refine x_bipush C (z := -2) dX6_newNumber_13 (by decide) ?_
    exact x_iret C dX6_newNumber_15 ⟨_, rfl, _, rfl, Or.inl ⟨by omega, rfl, rfl⟩⟩
  · refine x_iload_n C dX6_newNumber_5 rfl rfl ?_
    refine x_aload_n C dX6_newNumber_6 rfl rfl ?_
    refine x_callV C (ci := 6) (nn := 0) (r_pool hg hnp ρ hs) g_RX6_114 rfl (by decide +kernel) ⟨by first | decide | omega, by first | decide | omega⟩ rfl rfl rfl rfl rfl (Nat.le_of_ble_eq_true rfl) dX6_newNumber_7 (fun v h1 hp => ?_)
    obtain ⟨ρ1, rfl, rfl, rfl⟩ := hp
    refine x_icmp_le (tgt := 16) C dX6_newNumber_10 (by decide) (by omega) (by omega) (fun c_10 => ?_) (fun c_10 => ?_)
    · refine x_aload_n C dX6_newNumber_16 rfl rfl ?_
      refine x_callV C (ci := 6) (nn := 0) (r_freeHandle hg ρ hs hF.1) g_RX6_121 rfl (by decide +kernel) ⟨by first | decide | omega, by first | decide | omega⟩ rfl rfl rfl rfl rfl (Nat.le_of_ble_eq_true rfl) dX6_newNumber_17 (fun v h1 hp => ?_)
      obtain ⟨ρ1, rfl, rfl, r, rfl, hr⟩ := hp
      have hrr : -1 ≤ r ∧ r < 24 := by rcases hr with ⟨h1, -⟩ | ⟨k, h1, h2, -⟩ <;> omega
      refine x_istore_n C (lv' := [(2, _), (0, _), (1, _)]) dX6_newNumber_20 rfl (by decide) rfl ?_
      refine x_iload_n C dX6_newNumber_21 rfl rfl ?_
      refine x_if_ge (tgt := 28) C dX6_newNumber_22 (by decide) (by omega) (fun c_22 => ?_) (fun c_22 => ?_)
      · rcases hr with ⟨h1, -⟩ | ⟨h, rfl, hh, h6, hl⟩
        · omega
        refine x_aload_n C dX6_newNumber_28 rfl rfl ?_
        refine x_iload_n C dX6_newNumber_29 rfl rfl ?_
        refine x_callS C (nn := 1) (r_orderFor ρ n (by omega)) g_RX6_117 rfl (by decide +kernel) ⟨by first | decide | omega, by first | decide | omega⟩ rfl rfl (Nat.le_of_ble_eq_true rfl) dX6_newNumber_30 (fun v h1 hp => ?_)
        obtain ⟨ρ1, rfl, rfl, o, rfl, ho, ho17⟩ := hp
        refine x_callV C (ci := 6) (nn := 1) (r_give hg hnp ρ hs hM o (by omega)) g_RX6_124 rfl (by decide +kernel) ⟨by first | decide | omega, by first | decide | omega⟩ rfl rfl rfl rfl rfl (Nat.le_of_ble_eq_true rfl) dX6_newNumber_33 (fun v h1 hp => ?_)
        obtain ⟨ρ1, rfl, r, rfl, hr⟩ := hp
        have hrr : -1 ≤ r ∧ r < 2048 := by rcases hr with ⟨h1, -⟩ | ⟨a, d, h1, h2, -⟩ <;> omega
        refine x_istore_n C (lv' := [(3, _), (2, _), (0, _), (1, _)]) dX6_newNumber_36 rfl (by decide) rfl ?_
        refine x_iload_n C dX6_newNumber_37 rfl rfl ?_
        refine x_if_ge (tgt := 44) C dX6_newNumber_38 (by decide) (by omega) (fun c_38 => ?_) (fun c_38 => ?_)
        · have hr0 := hr
          rcases hr with ⟨h1, -⟩ | ⟨a, d, rfl, ha, hd, -⟩
          · omega
          have hMa := hM.2.1 a (o + d) (by omega) hd
          have hpd := Nat.pow_le_pow_right (n := 2) (by decide) (show o ≤ o + d by omega)
          have hno := ho.1
          obtain ⟨z, rfl⟩ : ∃ z : Nat, n = z := ⟨n.toNat, by omega⟩
          have hno2 : z ≤ 2 ^ o := by exact_mod_cast hno
          refine x_aload_n C dX6_newNumber_44 rfl rfl ?_
          refine x_iload_n C dX6_newNumber_45 rfl rfl ?_
          refine x_iload_n C dX6_newNumber_46 rfl rfl ?_
          refine x_iload_n C dX6_newNumber_47 rfl rfl ?_
          refine x_callV C (ci := 6) (nn := 3) (r_make ρ1 h z a (by omega) (by omega) (by omega)) g_RX6_127 rfl (by decide +kernel) ⟨by first | decide | omega, by first | decide | omega⟩ rfl rfl rfl rfl rfl (Nat.le_of_ble_eq_true rfl) dX6_newNumber_48 (fun v h1 hp => ?_)
          obtain ⟨ρ2, rfl, rfl, o2, ho2, rfl⟩ := hp
          obtain rfl := ord_u ho ho2
          refine x_iload_n C dX6_newNumber_51 rfl rfl ?_
          exact x_iret C dX6_newNumber_52 ⟨_, rfl, _, rfl, Or.inr ⟨by omega, Or.inr ⟨h, o, hh, h6, hl, ho, ho17, _, _, hr0, Or.inr ⟨a, rfl, rfl, by rw [Int.toNat_natCast]⟩⟩⟩⟩
        · refine x_bipush C (z := (-4)) dX6_newNumber_41 (by decide) ?_
          exact x_iret C dX6_newNumber_43 ⟨_, rfl, _, rfl, by
            have hr0 := hr
            rcases hr with ⟨-, h2, h3⟩ | ⟨a, d, h1, -⟩
            · subst h2; exact Or.inr ⟨by omega, Or.inr ⟨h, o, hh, h6, hl, ho, ho17, _, _, hr0, Or.inl ⟨by omega, rfl, rfl⟩⟩⟩
            · omega⟩
      · refine x_bipush C (z := (-3)) dX6_newNumber_25 (by decide) ?_
        exact x_iret C dX6_newNumber_27 ⟨_, rfl, _, rfl, Or.inr ⟨by omega, Or.inl ⟨by rcases hr with ⟨-, h2⟩ | ⟨k, h1, -⟩; exact h2; omega, rfl, rfl⟩⟩⟩
    · refine x_bipush C (z := (-2)) dX6_newNumber_13 (by decide) ?_
      exact x_iret C dX6_newNumber_15 ⟨_, rfl, _, rfl, Or.inl ⟨by omega, rfl, rfl⟩⟩
theorem clr_keep {ρ ρ1 : St} {h i : Nat} (e1 : ρ1 = upr ρ 18 (clr (ρ 12) (ρ 18) h i)) (hk : ¬ (0 ≤ ρ 12 i ∧ ρ 18 i = (h : Int))) : ρ1 = upr ρ 18 (clr (ρ 12) (ρ 18) h (i + 1)) := by
  rw [e1]
  congr 1
  funext j
  unfold clr
  by_cases c : j = i
  · subst c; rw [if_neg (by omega), if_neg (fun q => hk q.2)]
  · by_cases c2 : j < i ∧ 0 ≤ ρ 12 j ∧ ρ 18 j = (h : Int)
    · rw [if_pos c2, if_pos ⟨by omega, c2.2⟩]
    · rw [if_neg c2, if_neg (fun q => c2 ⟨by omega, q.2⟩)]
theorem clr_put {ρ ρ1 : St} {h i : Nat} (e1 : ρ1 = upr ρ 18 (clr (ρ 12) (ρ 18) h i)) (hk : 0 ≤ ρ 12 i ∧ ρ 18 i = (h : Int)) : up ρ1 18 (i : Int).toNat (-1) = upr ρ 18 (clr (ρ 12) (ρ 18) h (i + 1)) := by
  refine upr_of ?_ (fun q hq => by rw [up_n hq, e1, upr_n hq])
  rw [up_s, Int.toNat_natCast, e1, upr_s]
  funext j
  unfold clr
  by_cases c : j = i
  · subst c; rw [zup_s, if_pos ⟨by omega, hk⟩]
  · rw [zup_n c]
    by_cases c2 : j < i ∧ 0 ≤ ρ 12 j ∧ ρ 18 j = (h : Int)
    · rw [if_pos c2, if_pos ⟨by omega, c2.2⟩]
    · rw [if_neg c2, if_neg (fun q => c2 ⟨by omega, q.2⟩)]
theorem clr_0 (ρ : St) (h : Int) : upr ρ 18 (clr (ρ 12) (ρ 18) h 0) = ρ := by
  symm
  refine upr_of ?_ (fun q hq => rfl)
  funext j; unfold clr; rw [if_neg (by omega)]
set_option maxHeartbeats 4000000 in
set_option maxRecDepth 100000 in
theorem rp_go {p : Program} {l : Launch} {e : Env} {R : Room} {s : State} {m : MethodId} {args : Array Value} {below : List Frame} {meth : Method} {c : Code} {D : va_G} {ad : Nat → Nat} {Q : State → Prop} (C : Fx p s m args meth c D ad cX6_go 3 none yX6_go.cls tb) (ρ : St) (hS : ∀ j, j < 12 → -1 ≤ ρ 12 j ∧ ρ 12 j ≤ 3) (hR18 : ∀ j, j < 12 → 0 ≤ ρ 12 j → -1 ≤ ρ 18 j ∧ ρ 18 j ≤ 23) (h : Nat) (hh : h < 24) (K : ∀ lv, X p l e R s m args below meth c D ad 3 Q (rc D ad (upr ρ 18 (clr (ρ 12) (ρ 18) h 12))) 70 lv []) (n i : Nat) (hn : 12 - i < n) (hi : i ≤ 12) (ρ1 : St) (e1 : ρ1 = upr ρ 18 (clr (ρ 12) (ρ 18) h i)) : X p l e R s m args below meth c D ad 3 Q (rc D ad ρ1) 32 [(2, vi (i : Int)), (0, .ref (ad 0)), (1, vi (h : Int))] [] := by
  induction n generalizing i ρ1 with
  | zero => omega
  | succ n ih =>
  refine x_iload_n C dX6_go_32 rfl rfl ?_
  refine x_bipush C (z := 12) dX6_go_33 (by decide) ?_
  refine x_icmp_ge (tgt := 70) C dX6_go_35 (by decide) (by omega) (by omega) (fun c_35 => ?_) (fun c_35 => ?_)
  · obtain rfl : i = 12 := by omega
    rw [e1]
    exact K _
  · have f12 : ρ1 12 = ρ 12 := by rw [e1, upr_n (by decide)]
    have f18 : ρ1 18 i = ρ 18 i := by rw [e1, upr_s, clr, if_neg (by omega)]
    have hs := hS i (by omega)
    refine x_aload_n C dX6_go_38 rfl rfl ?_
    refine x_get C (Cn := RX6) (T := TX6) (N := 33) (ci := 6) 12 dX6_go_39 m_w_6 m_f_RX6_35 rfl (by decide) rfl rfl ?_
    refine x_iload_n C dX6_go_42 rfl rfl ?_
    refine x_iald C dX6_go_43 rfl (by omega) (by omega) ?_
    rw [Int.toNat_natCast, f12]
    refine x_if_lt (tgt := 64) C dX6_go_44 (by decide) (by omega) (fun c_44 => ?_) (fun c_44 => ?_)
    · refine x_iinc C (lv' := [(2, _), (0, _), (1, _)]) dX6_go_64 rfl (by decide) rfl ?_
      refine x_goto (tgt := 32) C dX6_go_67 (by decide) ?_
      rw [show (i : Int) + 1 = ((i + 1 : Nat) : Int) by omega]
      refine ih (i + 1) (by omega) (by omega) _ ?_
      first | exact clr_put e1 ⟨by omega, by omega⟩ | exact clr_keep e1 (by omega)
    · have hr := hR18 i (by omega) (by omega)
      refine x_aload_n C dX6_go_47 rfl rfl ?_
      refine x_get C (Cn := RX6) (T := TX6) (N := 33) (ci := 6) 18 dX6_go_48 m_w_6 m_f_RX6_54 rfl (by decide) rfl rfl ?_
      refine x_iload_n C dX6_go_51 rfl rfl ?_
      refine x_iald C dX6_go_52 rfl (by omega) (by omega) ?_
      refine x_iload_n C dX6_go_53 rfl rfl ?_
      rw [Int.toNat_natCast, f18]
      refine x_icmp_ne (tgt := 64) C dX6_go_54 (by decide) (by omega) (by omega) (fun c_54 => ?_) (fun c_54 => ?_)
      · refine x_iinc C (lv' := [(2, _), (0, _), (1, _)]) dX6_go_64 rfl (by decide) rfl ?_
        refine x_goto (tgt := 32) C dX6_go_67 (by decide) ?_
        rw [show (i : Int) + 1 = ((i + 1 : Nat) : Int) by omega]
        refine ih (i + 1) (by omega) (by omega) _ ?_
        first | exact clr_put e1 ⟨by omega, by omega⟩ | exact clr_keep e1 (by omega)
      · refine x_aload_n C dX6_go_57 rfl rfl ?_
        refine x_get C (Cn := RX6) (T := TX6) (N := 33) (ci := 6) 18 dX6_go_58 m_w_6 m_f_RX6_54 rfl (by decide) rfl rfl ?_
        refine x_iload_n C dX6_go_61 rfl rfl ?_
        refine x_iconst C dX6_go_62 ?_
        refine r_ast C dX6_go_63 (fun _ => rfl) (by omega) (by omega) ?_
        refine x_iinc C (lv' := [(2, _), (0, _), (1, _)]) dX6_go_64 rfl (by decide) rfl ?_
        refine x_goto (tgt := 32) C dX6_go_67 (by decide) ?_
        rw [show (i : Int) + 1 = ((i + 1 : Nat) : Int) by omega]
        refine ih (i + 1) (by omega) (by omega) _ ?_
        first | exact clr_put e1 ⟨by omega, by omega⟩ | exact clr_keep e1 (by omega)
set_option maxHeartbeats 4000000 in
set_option maxRecDepth 100000 in
theorem r_go {l : Launch} {D : va_G} {ad : Nat → Nat} {g : Nat × Nat × Nat × Nat} (hg : 3 ≤ g.1 ∧ g.1 ≤ 11 ∧ 8 ≤ g.2.1 ∧ g.2.1 ≤ 2048 ∧ 1 ≤ g.2.2.1 ∧ g.2.2.1 ≤ 24 ∧ 1 ≤ g.2.2.2 ∧ g.2.2.2 ≤ 12) (hnp : g.2.1 = 2 ^ g.1) (ρ : St) (hs : RS g ρ) (hS : ∀ j, j < 12 → -1 ≤ ρ 12 j ∧ ρ 12 j ≤ 3) (hR18 : ∀ j, j < 12 → 0 ≤ ρ 12 j → -1 ≤ ρ 18 j ∧ ρ 18 j ≤ 23) (hM : MI g.1 (ρ 5)) (h A o : Nat) (hh : h < 24) (hA : ρ 8 h = A) (hO : ρ 9 h = o) (ho : o ≤ g.1) (hd : 2 ^ o ∣ A) (ha : A + 2 ^ o ≤ 2 ^ g.1) (hno : ∀ b, A ≤ b → b < A + 2 ^ o → ρ 5 b = -1) : Rt l D ad yX6_go (Cond.code yX6_go cX6_go 3 none :: tb) 1 40 [.ref (ad 0), vi (h : Int)] ρ (fun v ρ' => v = none ∧ ρ' = GO g ρ h A o) := by
  refine ct_of (by decide) rfl (Nat.le_of_ble_eq_true rfl) ?_
  intro p e s m below meth c C
  change X _ _ _ _ _ _ _ _ _ _ _ _ _ _ _ _ [(0, .ref (ad 0)), (1, vi (h : Int))] _
  refine x_aload_n C dX6_go_0 rfl rfl ?_
  refine x_get C (Cn := RX6) (T := TX6) (N := 33) (ci := 6) 6 dX6_go_1 m_w_6 m_f_RX6_16 rfl (by decide) rfl rfl ?_
  refine x_iload_n C dX6_go_4 rfl rfl ?_
  refine x_iconst C dX6_go_5 ?_
  refine r_astz C dX6_go_6 (fun _ => rfl) (by omega) (by omega) (by omega) ?_
  refine x_aload_n C dX6_go_7 rfl rfl ?_
  refine x_get C (Cn := RX6) (T := TX6) (N := 33) (ci := 6) 11 dX6_go_8 m_w_6 m_f_RX6_32 rfl (by decide) rfl rfl ?_
  refine x_iload_n C dX6_go_11 rfl rfl ?_
  refine x_iconst C dX6_go_12 ?_
  refine r_astz C dX6_go_13 (fun _ => rfl) (by omega) (by omega) (by omega) ?_
  refine x_aload_n C dX6_go_14 rfl rfl ?_
  refine x_aload_n C dX6_go_15 rfl rfl ?_
  refine x_get C (Cn := RX6) (T := TX6) (N := 33) (ci := 6) 8 dX6_go_16 m_w_6 m_f_RX6_23 rfl (by decide) rfl rfl ?_
  refine x_iload_n C dX6_go_19 rfl rfl ?_
  refine x_iald C dX6_go_20 rfl (by omega) (by omega) ?_
  rw [Int.toNat_natCast, up_n (by decide), up_n (by decide), hA]
  refine x_aload_n C dX6_go_21 rfl rfl ?_
  refine x_get C (Cn := RX6) (T := TX6) (N := 33) (ci := 6) 9 dX6_go_22 m_w_6 m_f_RX6_26 rfl (by decide) rfl rfl ?_
  refine x_iload_n C dX6_go_25 rfl rfl ?_
  refine x_iald C dX6_go_26 rfl (by omega) (by omega) ?_
  rw [Int.toNat_natCast, up_n (by decide), up_n (by decide), hO]
  refine x_callV C (ci := 6) (nn := 2) (r_free hg hnp _ (by rw [up_n (by decide), up_n (by decide)]; exact hs.1) (by rw [up_n (by decide), up_n (by decide)]; exact hM) A o ho hd ha (by rw [up_n (by decide), up_n (by decide)]; exact hno)) g_RX6_135 rfl (by decide +kernel) ⟨by first | decide | omega, by first | decide | omega⟩ rfl rfl rfl rfl rfl (Nat.le_of_ble_eq_true rfl) dX6_go_27 (fun v h1 hp => ?_)
  obtain ⟨ρ1, rfl, rfl, rfl⟩ := hp
  rw [up_n (show 5 ≠ 11 by decide), up_n (show 5 ≠ 6 by decide)]
  refine x_iconst C dX6_go_30 ?_
  refine x_istore_n C (lv' := [(2, _), (0, _), (1, _)]) dX6_go_31 rfl (by decide) rfl ?_
  refine rp_go C (upr (up (up ρ 6 h 0) 11 h 0) 5 (jnF g.1 12 (ρ 5) A o)) ?_ ?_ h hh ?_ 13 0 (by omega) (by omega) _ (clr_0 _ _).symm
  · rw [upr_n (by decide), up_n (by decide), up_n (by decide)]; exact hS
  · rw [upr_n (by decide), up_n (by decide), up_n (by decide), upr_n (by decide), up_n (by decide), up_n (by decide)]; exact hR18
  · intro lv
    refine x_vret C dX6_go_70 ⟨_, rfl, rfl, ?_⟩
    rw [upr_n (show 12 ≠ 5 by decide), up_n (show 12 ≠ 11 by decide), up_n (show 12 ≠ 6 by decide), upr_n (show 18 ≠ 5 by decide), up_n (show 18 ≠ 11 by decide), up_n (show 18 ≠ 6 by decide)]
    rfl
set_option maxHeartbeats 4000000 in
set_option maxRecDepth 100000 in
theorem r_release {l : Launch} {D : va_G} {ad : Nat → Nat} {g : Nat × Nat × Nat × Nat} (hg : 3 ≤ g.1 ∧ g.1 ≤ 11 ∧ 8 ≤ g.2.1 ∧ g.2.1 ≤ 2048 ∧ 1 ≤ g.2.2.1 ∧ g.2.2.1 ≤ 24 ∧ 1 ≤ g.2.2.2 ∧ g.2.2.2 ≤ 12) (hnp : g.2.1 = 2 ^ g.1) (ρ : St) (hs : RS g ρ) (hF : RF ρ) (hU : RN_ ρ) (hR18 : ∀ j, j < 12 → 0 ≤ ρ 12 j → -1 ≤ ρ 18 j ∧ ρ 18 j ≤ 23) (hM : MI g.1 (ρ 5)) (hB : ∀ k, k < g.2.2.1 → ρ 6 k = 1 → ∃ A o : Nat, ρ 8 k = A ∧ ρ 9 k = o ∧ o ≤ g.1 ∧ 2 ^ o ∣ A ∧ A + 2 ^ o ≤ 2 ^ g.1 ∧ ∀ b, A ≤ b → b < A + 2 ^ o → ρ 5 b = -1) (h : Int) (rg_h : -2147483648 ≤ h ∧ h < 2147483648) : Rt l D ad yX6_release (Cond.code yX6_release cX6_release 2 (some .boolean) :: tb) 2 80 [.ref (ad 0), vi h] ρ (fun v ρ' => (¬ (rNm g ρ h ∧ ¬ 0 < ρ 10 h.toNat) ∧ v = some (vi 0) ∧ ρ = ρ') ∨ (v = some (vi 1) ∧ ∃ n A o : Nat, h = n ∧ n < g.2.2.1 ∧ ρ 6 n = 1 ∧ ¬ 0 < ρ 10 n ∧ ρ 8 n = A ∧ ρ 9 n = o ∧ ρ' = GO g ρ n A o)) := by
  refine ct_of (by decide) rfl (Nat.le_of_ble_eq_true rfl) ?_
  intro p e s m below meth c C
  change X _ _ _ _ _ _ _ _ _ _ _ _ _ _ _ _ [(0, .ref (ad 0)), (1, vi h)] _
  refine x_aload_n C dX6_release_0 rfl rfl ?_
  refine x_iload_n C dX6_release_1 rfl rfl ?_
  refine x_callV C (ci := 6) (nn := 1) (r_isThere hg ρ hs hF h rg_h) g_RX6_131 rfl (by decide +kernel) ⟨by first | decide | omega, by first | decide | omega⟩ rfl rfl rfl rfl rfl (Nat.le_of_ble_eq_true rfl) dX6_release_2 (fun v h1 hp => ?_)
  obtain ⟨ρ1, rfl, rfl, x, rfl, hx⟩ := hp
  have hxr : 0 ≤ x ∧ x ≤ 1 := by rcases hx with ⟨h, -⟩ | ⟨h, -⟩ <;> omega
  refine x_if_eq (tgt := 17) C dX6_release_5 (by decide) (by omega) (fun c_5 => ?_) (fun c_5 => ?_)
  · rcases hx with ⟨h1, -⟩ | ⟨-, hN⟩
    · omega
    refine x_iconst C dX6_release_17 ?_
    exact x_zret C dX6_release_18 (by omega) ⟨_, rfl, Or.inl ⟨fun q => hN q.1, rfl, rfl⟩⟩
  · rcases hx with ⟨-, hN⟩ | ⟨h0, -⟩
    rotate_left
    · exact absurd h0 c_5
    obtain ⟨n, rfl, hn, h6⟩ := id hN
    obtain ⟨A0, z0, -, -, -, hp0⟩ := hU n (by omega) h6
    refine x_aload_n C dX6_release_8 rfl rfl ?_
    refine x_get C (Cn := RX6) (T := TX6) (N := 33) (ci := 6) 10 dX6_release_9 m_w_6 m_f_RX6_29 rfl (by decide) rfl rfl ?_
    refine x_iload_n C dX6_release_12 rfl rfl ?_
    refine x_iald C dX6_release_13 rfl (by omega) (by omega) ?_
    rw [Int.toNat_natCast]
    refine x_if_le (tgt := 19) C dX6_release_14 (by decide) (by omega) (fun c_14 => ?_) (fun c_14 => ?_)
    · obtain ⟨A, o, hA, hO, b1, b2, b3, b4⟩ := hB n hn h6
      refine x_aload_n C dX6_release_19 rfl rfl ?_
      refine x_iload_n C dX6_release_20 rfl rfl ?_
      refine x_callV C (ci := 6) (nn := 1) (r_go hg hnp ρ hs hF.2.2 hR18 hM n A o (by omega) hA hO b1 b2 b3 b4) g_RX6_139 rfl (by decide +kernel) ⟨by first | decide | omega, by first | decide | omega⟩ rfl rfl rfl rfl rfl (Nat.le_of_ble_eq_true rfl) dX6_release_21 (fun v h1 hp => ?_)
      obtain ⟨ρ1, rfl, rfl, rfl⟩ := hp
      refine x_iconst C dX6_release_24 ?_
      exact x_zret C dX6_release_25 (by omega) ⟨_, rfl, Or.inr ⟨rfl, n, A, o, rfl, hn, h6, by omega, hA, hO, rfl⟩⟩
    · refine x_iconst C dX6_release_17 ?_
      exact x_zret C dX6_release_18 (by omega) ⟨_, rfl, Or.inl ⟨fun q => by have := q.2; (try rw [Int.toNat_natCast] at this); omega, rfl, rfl⟩⟩
