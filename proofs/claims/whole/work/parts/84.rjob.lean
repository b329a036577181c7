/-! THE REFERENCE'S JOBS: sizes, pins, the queue, start -/
def JFr (ρ : St) (j a b m sa sb sm : Nat) : Prop := (0 ≤ ρ 13 j ∧ ρ 13 j ≤ 3) ∧ (a < 24 ∧ b < 24 ∧ m < 24 ∧ sa ≤ 2048 ∧ sb ≤ 2048 ∧ sm ≤ 2048) ∧ ρ 14 j = a ∧ ρ 15 j = b ∧ ρ 7 a = sa ∧ ρ 7 b = sb ∧ ((ρ 13 j = 3 ∧ ρ 16 j = m ∧ ρ 7 m = sm) ∨ (ρ 13 j ≠ 3 ∧ ρ 16 j = -1 ∧ sm = 0))
def dn (ρ : St) (h : Nat) : St := up ρ 10 h (ρ 10 h - 1)
def UNP (ρ ρ' : St) (op : Int) (a b m : Nat) : Prop := (op = 3 ∧ ρ' = dn (dn (dn ρ a) b) m) ∨ (op ≠ 3 ∧ ρ' = dn (dn ρ a) b)
def QL (ρ : St) (q : List Int) : Prop := ρ 0 22 = q.length ∧ q.length ≤ 12 ∧ ∀ k : Nat, k < q.length → q[k]? = some (ρ 21 k)
def BLr (g : Nat × Nat × Nat × Nat) (f : Nat → Int) (A o : Nat) : Prop := o ≤ g.1 ∧ 2 ^ o ∣ A ∧ A + 2 ^ o ≤ 2 ^ g.1 ∧ ∀ b, A ≤ b → b < A + 2 ^ o → f b = -1
def LVQ (ρ ρ1 : St) (q : List Int) (j : Nat) : Prop := QL ρ1 (q.filter (fun x => !decide (x = (j : Int)))) ∧ (∀ n, n ≠ 0 → n ≠ 21 → ρ1 n = ρ n) ∧ ∀ k, k ≠ 22 → ρ1 0 k = ρ 0 k
def LEV (g : Nat × Nat × Nat × Nat) (ρ ρ' : St) (q : List Int) (j a b m : Nat) : Prop := ∃ ρ1 ρ2 : St, LVQ ρ ρ1 q j ∧ UNP ρ1 ρ2 (ρ 13 j) a b m ∧ ((ρ 20 j = -1 ∧ ρ2 = ρ') ∨ ∃ r o : Nat, ρ 19 j = r ∧ ρ 20 j = o ∧ ρ' = up (upr ρ2 5 (jnF g.1 12 (ρ 5) r o)) 20 j (-1))
theorem rgP.mi {g : Nat × Nat × Nat × Nat} {ρ ρ1 : St} {k a : Nat} (hpl : g.1 ≤ 11) (hnp : g.2.1 = 2 ^ g.1) (hM : MI g.1 (ρ 5)) (h : rgP g ρ ρ1 k (a : Int)) : MI g.1 (ρ1 5) ∧ HB g.1 (ρ1 5) a k ∧ ∀ q, q ≠ 5 → ρ1 q = ρ q := by
  rcases h with ⟨h1, -⟩ | ⟨a1, d, h1, ha, hd, -, -, rfl⟩
  · omega
  · obtain rfl : a = a1 := by omega
    have := HB.spl hpl hM.rem (HB.take hM (by omega) hd)
    rw [upr_s]
    exact ⟨this.1, this.2, fun q hq => upr_n hq⟩
def stF (ρ : St) (h j : Nat) : St := up (up (up (up ρ 11 h 1) 10 h 1) 18 j h) 12 j 1
def STR (g : Nat × Nat × Nat × Nat) (ρ ρ' : St) (j : Nat) (n room : Int) : Prop :=
  ((∀ k, k < g.2.2.1 → ¬ ρ 6 k = 0) ∧ ρ = ρ') ∨ ∃ h o : Nat, h < g.2.2.1 ∧ ρ 6 h = 0 ∧ (∀ i, i < h → ¬ ρ 6 i = 0) ∧ ordP n o ∧ o ≤ 17 ∧
  ((¬ o ≤ g.1 ∧ ρ = ρ') ∨ (o ≤ g.1 ∧ ∃ (r : Int) (ρ1 : St), rgP g ρ ρ1 o r ∧ ((r = -1 ∧ ρ = ρ') ∨ ∃ a : Nat, r = a ∧
    ((room = 0 ∧ ρ' = stF (MAK ρ1 h n.toNat a o) h j) ∨ (0 < room ∧ ∃ o2 : Nat, ordP room o2 ∧ o2 ≤ 17 ∧
      (((¬ o2 ≤ g.1 ∨ ∀ b, b < g.2.1 → ¬ (o2 : Int) ≤ ρ1 5 b) ∧ ρ' = upr ρ1 5 (jnF g.1 12 (ρ1 5) a o)) ∨
       (o2 ≤ g.1 ∧ ∃ (b : Nat) (ρ2 : St), rgP g ρ1 ρ2 o2 b ∧ ρ' = stF (MAK (up (up ρ2 19 j b) 20 j o2) h n.toNat a o) h j)))))))
set_option maxHeartbeats 4000000 in
set_option maxRecDepth 100000 in
theorem r_resultSize {l : Launch} {D : va_G} {ad : Nat → Nat} (ρ : St) (j a b m0 sa sb sm : Nat) (hj : j < 12) (hJ : JFr ρ j a b m0 sa sb sm) : Rt l D ad yX6_resultSize (Cond.code yX6_resultSize cX6_resultSize 4 (some .int) :: tb) 0 0 [.ref (ad 0), vi (j : Int)] ρ (fun v ρ' => ρ = ρ' ∧ v = some (vi (plL (ρ 13 j) sa sb sm))) := by
  refine ct_of (by decide) rfl (Nat.le_of_ble_eq_true rfl) ?_
  intro p e s m below meth c C
  change X _ _ _ _ _ _ _ _ _ _ _ _ _ _ _ _ [(0, .ref (ad 0)), (1, vi (j : Int))] _
  obtain ⟨hop, hlt, e14, e15, esa, esb, hm⟩ := hJ
  refine x_aload_n C dX6_resultSize_0 rfl rfl ?_
  refine x_get C (Cn := RX6) (T := TX6) (N := 33) (ci := 6) 7 dX6_resultSize_1 m_w_6 m_f_RX6_20 rfl (by decide) rfl rfl ?_
  refine x_aload_n C dX6_resultSize_4 rfl rfl ?_
  refine x_get C (Cn := RX6) (T := TX6) (N := 33) (ci := 6) 14 dX6_resultSize_5 m_w_6 m_f_RX6_41 rfl (by decide) rfl rfl ?_
  refine x_iload_n C dX6_resultSize_8 rfl rfl ?_
  refine x_iald C dX6_resultSize_9 rfl (by omega) (by omega) ?_
  rw [Int.toNat_natCast, e14]
  refine x_iald C dX6_resultSize_10 rfl (by omega) (by omega) ?_
  rw [Int.toNat_natCast, esa]
  refine x_istore_n C (lv' := [(2, _), (0, _), (1, _)]) dX6_resultSize_11 rfl (by decide) rfl ?_
  refine x_aload_n C dX6_resultSize_12 rfl rfl ?_
  refine x_get C (Cn := RX6) (T := TX6) (N := 33) (ci := 6) 7 dX6_resultSize_13 m_w_6 m_f_RX6_20 rfl (by decide) rfl rfl ?_
  refine x_aload_n C dX6_resultSize_16 rfl rfl ?_
  refine x_get C (Cn := RX6) (T := TX6) (N := 33) (ci := 6) 15 dX6_resultSize_17 m_w_6 m_f_RX6_44 rfl (by decide) rfl rfl ?_
  refine x_iload_n C dX6_resultSize_20 rfl rfl ?_
  refine x_iald C dX6_resultSize_21 rfl (by omega) (by omega) ?_
  rw [Int.toNat_natCast, e15]
  refine x_iald C dX6_resultSize_22 rfl (by omega) (by omega) ?_
  rw [Int.toNat_natCast, esb]
  refine x_istore_n C (lv' := [(3, _), (2, _), (0, _), (1, _)]) dX6_resultSize_23 rfl (by decide) rfl ?_
  refine x_aload_n C dX6_resultSize_24 rfl rfl ?_
  refine x_get C (Cn := RX6) (T := TX6) (N := 33) (ci := 6) 13 dX6_resultSize_25 m_w_6 m_f_RX6_38 rfl (by decide) rfl rfl ?_
  refine x_iload_n C dX6_resultSize_28 rfl rfl ?_
  refine x_iald C dX6_resultSize_29 rfl (by omega) (by omega) ?_
  rw [Int.toNat_natCast]
  refine x_if_ne (tgt := 39) C dX6_resultSize_30 (by decide) (by omega) (fun c_30 => ?_) (fun c_30 => ?_)
  · refine x_aload_n C dX6_resultSize_39 rfl rfl ?_
    refine x_get C (Cn := RX6) (T := TX6) (N := 33) (ci := 6) 13 dX6_resultSize_40 m_w_6 m_f_RX6_38 rfl (by decide) rfl rfl ?_
    refine x_iload_n C dX6_resultSize_43 rfl rfl ?_
    refine x_iald C dX6_resultSize_44 rfl (by omega) (by omega) ?_
    refine x_iconst C dX6_resultSize_45 ?_
    rw [Int.toNat_natCast]
    refine x_icmp_ne (tgt := 53) C dX6_resultSize_46 (by decide) (by omega) (by omega) (fun c_46 => ?_) (fun c_46 => ?_)
    · refine x_aload_n C dX6_resultSize_53 rfl rfl ?_
      refine x_get C (Cn := RX6) (T := TX6) (N := 33) (ci := 6) 13 dX6_resultSize_54 m_w_6 m_f_RX6_38 rfl (by decide) rfl rfl ?_
      refine x_iload_n C dX6_resultSize_57 rfl rfl ?_
      refine x_iald C dX6_resultSize_58 rfl (by omega) (by omega) ?_
      refine x_iconst C dX6_resultSize_59 ?_
      rw [Int.toNat_natCast]
      refine x_icmp_ne (tgt := 76) C dX6_resultSize_60 (by decide) (by omega) (by omega) (fun c_60 => ?_) (fun c_60 => ?_)
      · obtain ⟨hm1, hm2, hm3⟩ : ρ 13 j = 3 ∧ ρ 16 j = m0 ∧ ρ 7 m0 = sm := by
          rcases hm with q | ⟨q, -⟩
          · exact q
          · omega
        refine x_aload_n C dX6_resultSize_76 rfl rfl ?_
        refine x_get C (Cn := RX6) (T := TX6) (N := 33) (ci := 6) 7 dX6_resultSize_77 m_w_6 m_f_RX6_20 rfl (by decide) rfl rfl ?_
        refine x_aload_n C dX6_resultSize_80 rfl rfl ?_
        refine x_get C (Cn := RX6) (T := TX6) (N := 33) (ci := 6) 16 dX6_resultSize_81 m_w_6 m_f_RX6_47 rfl (by decide) rfl rfl ?_
        refine x_iload_n C dX6_resultSize_84 rfl rfl ?_
        refine x_iald C dX6_resultSize_85 rfl (by omega) (by omega) ?_
        rw [Int.toNat_natCast, hm2]
        refine x_iald C dX6_resultSize_86 rfl (by omega) (by omega) ?_
        rw [Int.toNat_natCast, hm3]
        exact x_iret C dX6_resultSize_87 ⟨_, rfl, rfl, by unfold plL; first | rw [if_pos (by omega)] | rw [if_neg (by omega), if_pos (by omega)] | rw [if_neg (by omega), if_neg (by omega), if_pos (by omega), show max (sa : Int) (sb : Int) = sa by omega] | rw [if_neg (by omega), if_neg (by omega), if_pos (by omega), show max (sa : Int) (sb : Int) = sb by omega] | rw [if_neg (by omega), if_neg (by omega), if_neg (by omega)]⟩
      · refine x_iload_n C dX6_resultSize_63 rfl rfl ?_
        refine x_iload_n C dX6_resultSize_64 rfl rfl ?_
        refine x_icmp_le (tgt := 72) C dX6_resultSize_65 (by decide) (by omega) (by omega) (fun c_65 => ?_) (fun c_65 => ?_)
        · refine x_iload_n C dX6_resultSize_72 rfl rfl ?_
          refine x_goto (tgt := 87) C dX6_resultSize_73 (by decide) ?_
          exact x_iret C dX6_resultSize_87 ⟨_, rfl, rfl, by unfold plL; first | rw [if_pos (by omega)] | rw [if_neg (by omega), if_pos (by omega)] | rw [if_neg (by omega), if_neg (by omega), if_pos (by omega), show max (sa : Int) (sb : Int) = sa by omega] | rw [if_neg (by omega), if_neg (by omega), if_pos (by omega), show max (sa : Int) (sb : Int) = sb by omega] | rw [if_neg (by omega), if_neg (by omega), if_neg (by omega)]⟩
        · refine x_iload_n C dX6_resultSize_68 rfl rfl ?_
          refine x_goto (tgt := 87) C dX6_resultSize_69 (by decide) ?_
          exact x_iret C dX6_resultSize_87 ⟨_, rfl, rfl, by unfold plL; first | rw [if_pos (by omega)] | rw [if_neg (by omega), if_pos (by omega)] | rw [if_neg (by omega), if_neg (by omega), if_pos (by omega), show max (sa : Int) (sb : Int) = sa by omega] | rw [if_neg (by omega), if_neg (by omega), if_pos (by omega), show max (sa : Int) (sb : Int) = sb by omega] | rw [if_neg (by omega), if_neg (by omega), if_neg (by omega)]⟩
    · refine x_iload_n C dX6_resultSize_49 rfl rfl ?_
      refine x_goto (tgt := 87) C dX6_resultSize_50 (by decide) ?_
      exact x_iret C dX6_resultSize_87 ⟨_, rfl, rfl, by unfold plL; first | rw [if_pos (by omega)] | rw [if_neg (by omega), if_pos (by omega)] | rw [if_neg (by omega), if_neg (by omega), if_pos (by omega), show max (sa : Int) (sb : Int) = sa by omega] | rw [if_neg (by omega), if_neg (by omega), if_pos (by omega), show max (sa : Int) (sb : Int) = sb by omega] | rw [if_neg (by omega), if_neg (by omega), if_neg (by omega)]⟩
  · refine x_iload_n C dX6_resultSize_33 rfl rfl ?_
    refine x_iload_n C dX6_resultSize_34 rfl rfl ?_
    refine x_iadd C dX6_resultSize_35 ?_
    refine x_goto (tgt := 87) C dX6_resultSize_36 (by decide) ?_
    exact x_iret C dX6_resultSize_87 ⟨_, rfl, rfl, by unfold plL; first | rw [if_pos (by omega)] | rw [if_neg (by omega), if_pos (by omega)] | rw [if_neg (by omega), if_neg (by omega), if_pos (by omega), show max (sa : Int) (sb : Int) = sa by omega] | rw [if_neg (by omega), if_neg (by omega), if_pos (by omega), show max (sa : Int) (sb : Int) = sb by omega] | rw [if_neg (by omega), if_neg (by omega), if_neg (by omega)]⟩
set_option maxHeartbeats 4000000 in
set_option maxRecDepth 100000 in
theorem r_roomSize {l : Launch} {D : va_G} {ad : Nat → Nat} (ρ : St) (j a b m0 sa sb sm : Nat) (hj : j < 12) (hJ : JFr ρ j a b m0 sa sb sm) : Rt l D ad yX6_roomSize (Cond.code yX6_roomSize cX6_roomSize 4 (some .int) :: tb) 0 0 [.ref (ad 0), vi (j : Int)] ρ (fun v ρ' => ρ = ρ' ∧ v = some (vi (plR (ρ 13 j) sa sb sm))) := by
  refine ct_of (by decide) rfl (Nat.le_of_ble_eq_true rfl) ?_
  intro p e s m below meth c C
  change X _ _ _ _ _ _ _ _ _ _ _ _ _ _ _ _ [(0, .ref (ad 0)), (1, vi (j : Int))] _
  obtain ⟨hop, hlt, e14, e15, esa, esb, hm⟩ := hJ
  refine x_aload_n C dX6_roomSize_0 rfl rfl ?_
  refine x_get C (Cn := RX6) (T := TX6) (N := 33) (ci := 6) 7 dX6_roomSize_1 m_w_6 m_f_RX6_20 rfl (by decide) rfl rfl ?_
  refine x_aload_n C dX6_roomSize_4 rfl rfl ?_
  refine x_get C (Cn := RX6) (T := TX6) (N := 33) (ci := 6) 14 dX6_roomSize_5 m_w_6 m_f_RX6_41 rfl (by decide) rfl rfl ?_
  refine x_iload_n C dX6_roomSize_8 rfl rfl ?_
  refine x_iald C dX6_roomSize_9 rfl (by omega) (by omega) ?_
  rw [Int.toNat_natCast, e14]
  refine x_iald C dX6_roomSize_10 rfl (by omega) (by omega) ?_
  rw [Int.toNat_natCast, esa]
  refine x_istore_n C (lv' := [(2, _), (0, _), (1, _)]) dX6_roomSize_11 rfl (by decide) rfl ?_
  refine x_aload_n C dX6_roomSize_12 rfl rfl ?_
  refine x_get C (Cn := RX6) (T := TX6) (N := 33) (ci := 6) 7 dX6_roomSize_13 m_w_6 m_f_RX6_20 rfl (by decide) rfl rfl ?_
  refine x_aload_n C dX6_roomSize_16 rfl rfl ?_
  refine x_get C (Cn := RX6) (T := TX6) (N := 33) (ci := 6) 15 dX6_roomSize_17 m_w_6 m_f_RX6_44 rfl (by decide) rfl rfl ?_
  refine x_iload_n C dX6_roomSize_20 rfl rfl ?_
  refine x_iald C dX6_roomSize_21 rfl (by omega) (by omega) ?_
  rw [Int.toNat_natCast, e15]
  refine x_iald C dX6_roomSize_22 rfl (by omega) (by omega) ?_
  rw [Int.toNat_natCast, esb]
  refine x_istore_n C (lv' := [(3, _), (2, _), (0, _), (1, _)]) dX6_roomSize_23 rfl (by decide) rfl ?_
  refine x_aload_n C dX6_roomSize_24 rfl rfl ?_
  refine x_get C (Cn := RX6) (T := TX6) (N := 33) (ci := 6) 13 dX6_roomSize_25 m_w_6 m_f_RX6_38 rfl (by decide) rfl rfl ?_
  refine x_iload_n C dX6_roomSize_28 rfl rfl ?_
  refine x_iald C dX6_roomSize_29 rfl (by omega) (by omega) ?_
  rw [Int.toNat_natCast]
  refine x_if_ne (tgt := 37) C dX6_roomSize_30 (by decide) (by omega) (fun c_30 => ?_) (fun c_30 => ?_)
  · refine x_aload_n C dX6_roomSize_37 rfl rfl ?_
    refine x_get C (Cn := RX6) (T := TX6) (N := 33) (ci := 6) 13 dX6_roomSize_38 m_w_6 m_f_RX6_38 rfl (by decide) rfl rfl ?_
    refine x_iload_n C dX6_roomSize_41 rfl rfl ?_
    refine x_iald C dX6_roomSize_42 rfl (by omega) (by omega) ?_
    refine x_iconst C dX6_roomSize_43 ?_
    rw [Int.toNat_natCast]
    refine x_icmp_ne (tgt := 55) C dX6_roomSize_44 (by decide) (by omega) (by omega) (fun c_44 => ?_) (fun c_44 => ?_)
    · refine x_aload_n C dX6_roomSize_55 rfl rfl ?_
      refine x_get C (Cn := RX6) (T := TX6) (N := 33) (ci := 6) 13 dX6_roomSize_56 m_w_6 m_f_RX6_38 rfl (by decide) rfl rfl ?_
      refine x_iload_n C dX6_roomSize_59 rfl rfl ?_
      refine x_iald C dX6_roomSize_60 rfl (by omega) (by omega) ?_
      refine x_iconst C dX6_roomSize_61 ?_
      rw [Int.toNat_natCast]
      refine x_icmp_ne (tgt := 73) C dX6_roomSize_62 (by decide) (by omega) (by omega) (fun c_62 => ?_) (fun c_62 => ?_)
      · obtain ⟨hm1, hm2, hm3⟩ : ρ 13 j = 3 ∧ ρ 16 j = m0 ∧ ρ 7 m0 = sm := by
          rcases hm with q | ⟨q, -⟩
          · exact q
          · omega
        refine x_iconst C dX6_roomSize_73 ?_
        refine x_aload_n C dX6_roomSize_74 rfl rfl ?_
        refine x_get C (Cn := RX6) (T := TX6) (N := 33) (ci := 6) 7 dX6_roomSize_75 m_w_6 m_f_RX6_20 rfl (by decide) rfl rfl ?_
        refine x_aload_n C dX6_roomSize_78 rfl rfl ?_
        refine x_get C (Cn := RX6) (T := TX6) (N := 33) (ci := 6) 16 dX6_roomSize_79 m_w_6 m_f_RX6_47 rfl (by decide) rfl rfl ?_
        refine x_iload_n C dX6_roomSize_82 rfl rfl ?_
        refine x_iald C dX6_roomSize_83 rfl (by omega) (by omega) ?_
        rw [Int.toNat_natCast, hm2]
        refine x_iald C dX6_roomSize_84 rfl (by omega) (by omega) ?_
        rw [Int.toNat_natCast, hm3]
        refine x_imul C dX6_roomSize_85 ?_
        refine x_iconst C dX6_roomSize_86 ?_
        refine x_iadd C dX6_roomSize_87 ?_
        exact x_iret C dX6_roomSize_88 ⟨_, rfl, rfl, by unfold plR; first | rw [if_pos (by omega)] | rw [if_neg (by omega), if_pos (by omega)] | rw [if_neg (by omega), if_neg (by omega), if_pos (by omega)] | rw [if_neg (by omega), if_neg (by omega), if_neg (by omega)]⟩
      · refine x_iconst C dX6_roomSize_65 ?_
        refine x_iload_n C dX6_roomSize_66 rfl rfl ?_
        refine x_iload_n C dX6_roomSize_67 rfl rfl ?_
        refine x_iadd C dX6_roomSize_68 ?_
        refine x_imul C dX6_roomSize_69 ?_
        refine x_goto (tgt := 88) C dX6_roomSize_70 (by decide) ?_
        exact x_iret C dX6_roomSize_88 ⟨_, rfl, rfl, by unfold plR; first | rw [if_pos (by omega)] | rw [if_neg (by omega), if_pos (by omega)] | rw [if_neg (by omega), if_neg (by omega), if_pos (by omega)] | rw [if_neg (by omega), if_neg (by omega), if_neg (by omega)]⟩
    · refine x_iload_n C dX6_roomSize_47 rfl rfl ?_
      refine x_iload_n C dX6_roomSize_48 rfl rfl ?_
      refine x_iadd C dX6_roomSize_49 ?_
      refine x_iconst C dX6_roomSize_50 ?_
      refine x_iadd C dX6_roomSize_51 ?_
      refine x_goto (tgt := 88) C dX6_roomSize_52 (by decide) ?_
      exact x_iret C dX6_roomSize_88 ⟨_, rfl, rfl, by unfold plR; first | rw [if_pos (by omega)] | rw [if_neg (by omega), if_pos (by omega)] | rw [if_neg (by omega), if_neg (by omega), if_pos (by omega)] | rw [if_neg (by omega), if_neg (by omega), if_neg (by omega)]⟩
  · refine x_iconst C dX6_roomSize_33 ?_
    refine x_goto (tgt := 88) C dX6_roomSize_34 (by decide) ?_
    exact x_iret C dX6_roomSize_88 ⟨_, rfl, rfl, by unfold plR; first | rw [if_pos (by omega)] | rw [if_neg (by omega), if_pos (by omega)] | rw [if_neg (by omega), if_neg (by omega), if_pos (by omega)] | rw [if_neg (by omega), if_neg (by omega), if_neg (by omega)]⟩
set_option maxHeartbeats 4000000 in
set_option maxRecDepth 100000 in
theorem r_unpin {l : Launch} {D : va_G} {ad : Nat → Nat} (ρ : St) (j a b m0 : Nat) (hj : j < 12) (hlt : a < 24 ∧ b < 24 ∧ m0 < 24) (e14 : ρ 14 j = a) (e15 : ρ 15 j = b) (hm : (ρ 13 j = 3 ∧ ρ 16 j = m0) ∨ (ρ 13 j ≠ 3 ∧ ρ 16 j = -1)) : Rt l D ad yX6_unpin (Cond.code yX6_unpin cX6_unpin 2 none :: tb) 0 0 [.ref (ad 0), vi (j : Int)] ρ (fun v ρ' => v = none ∧ UNP ρ ρ' (ρ 13 j) a b m0) := by
  refine ct_of (by decide) rfl (Nat.le_of_ble_eq_true rfl) ?_
  intro p e s m below meth c C
  change X _ _ _ _ _ _ _ _ _ _ _ _ _ _ _ _ [(0, .ref (ad 0)), (1, vi (j : Int))] _
  refine x_aload_n C dX6_unpin_0 rfl rfl ?_
  refine x_get C (Cn := RX6) (T := TX6) (N := 33) (ci := 6) 10 dX6_unpin_1 m_w_6 m_f_RX6_29 rfl (by decide) rfl rfl ?_
  refine x_aload_n C dX6_unpin_4 rfl rfl ?_
  refine x_get C (Cn := RX6) (T := TX6) (N := 33) (ci := 6) 14 dX6_unpin_5 m_w_6 m_f_RX6_41 rfl (by decide) rfl rfl ?_
  refine x_iload_n C dX6_unpin_8 rfl rfl ?_
  refine x_iald C dX6_unpin_9 rfl (by omega) (by omega) ?_
  rw [Int.toNat_natCast, e14]
  refine x_dup2 C dX6_unpin_10 rfl rfl ?_
  refine x_iald C dX6_unpin_11 rfl (by omega) (by omega) ?_
  rw [Int.toNat_natCast]
  refine x_iconst C dX6_unpin_12 ?_
  refine x_isub C dX6_unpin_13 ?_
  refine r_ast C dX6_unpin_14 (fun _ => rfl) (by omega) (by omega) ?_
  rw [Int.toNat_natCast]
  refine x_aload_n C dX6_unpin_15 rfl rfl ?_
  refine x_get C (Cn := RX6) (T := TX6) (N := 33) (ci := 6) 10 dX6_unpin_16 m_w_6 m_f_RX6_29 rfl (by decide) rfl rfl ?_
  refine x_aload_n C dX6_unpin_19 rfl rfl ?_
  refine x_get C (Cn := RX6) (T := TX6) (N := 33) (ci := 6) 15 dX6_unpin_20 m_w_6 m_f_RX6_44 rfl (by decide) rfl rfl ?_
  refine x_iload_n C dX6_unpin_23 rfl rfl ?_
  refine x_iald C dX6_unpin_24 rfl (by omega) (by omega) ?_
  rw [Int.toNat_natCast, up_n (show 15 ≠ 10 by decide), e15]
  refine x_dup2 C dX6_unpin_25 rfl rfl ?_
  refine x_iald C dX6_unpin_26 rfl (by omega) (by omega) ?_
  rw [Int.toNat_natCast]
  refine x_iconst C dX6_unpin_27 ?_
  refine x_isub C dX6_unpin_28 ?_
  refine r_ast C dX6_unpin_29 (fun _ => rfl) (by omega) (by omega) ?_
  rw [Int.toNat_natCast]
  refine x_aload_n C dX6_unpin_30 rfl rfl ?_
  refine x_get C (Cn := RX6) (T := TX6) (N := 33) (ci := 6) 16 dX6_unpin_31 m_w_6 m_f_RX6_47 rfl (by decide) rfl rfl ?_
  refine x_iload_n C dX6_unpin_34 rfl rfl ?_
  refine x_iald C dX6_unpin_35 rfl (by omega) (by omega) ?_
  rw [Int.toNat_natCast, up_n (show 16 ≠ 10 by decide), up_n (show 16 ≠ 10 by decide)]
  refine x_if_lt (tgt := 54) C dX6_unpin_36 (by decide) (by rcases hm with ⟨-, q⟩ | ⟨-, q⟩ <;> omega) (fun c_36 => ?_) (fun c_36 => ?_)
  · refine x_vret C dX6_unpin_54 ⟨_, rfl, rfl, Or.inr ⟨by rcases hm with ⟨-, q⟩ | ⟨q, -⟩; omega; exact q, rfl⟩⟩
  · obtain ⟨h3, e16⟩ : ρ 13 j = 3 ∧ ρ 16 j = m0 := by
      rcases hm with q | ⟨-, q⟩
      · exact q
      · omega
    refine x_aload_n C dX6_unpin_39 rfl rfl ?_
    refine x_get C (Cn := RX6) (T := TX6) (N := 33) (ci := 6) 10 dX6_unpin_40 m_w_6 m_f_RX6_29 rfl (by decide) rfl rfl ?_
    refine x_aload_n C dX6_unpin_43 rfl rfl ?_
    refine x_get C (Cn := RX6) (T := TX6) (N := 33) (ci := 6) 16 dX6_unpin_44 m_w_6 m_f_RX6_47 rfl (by decide) rfl rfl ?_
    refine x_iload_n C dX6_unpin_47 rfl rfl ?_
    refine x_iald C dX6_unpin_48 rfl (by omega) (by omega) ?_
    rw [Int.toNat_natCast, up_n (show 16 ≠ 10 by decide), up_n (show 16 ≠ 10 by decide), e16]
    refine x_dup2 C dX6_unpin_49 rfl rfl ?_
    refine x_iald C dX6_unpin_50 rfl (by omega) (by omega) ?_
    rw [Int.toNat_natCast]
    refine x_iconst C dX6_unpin_51 ?_
    refine x_isub C dX6_unpin_52 ?_
    refine r_ast C dX6_unpin_53 (fun _ => rfl) (by omega) (by omega) ?_
    rw [Int.toNat_natCast]
    exact x_vret C dX6_unpin_54 ⟨_, rfl, rfl, Or.inl ⟨h3, rfl⟩⟩
theorem take_s {q : List Int} {k : Nat} {x : Int} (h : q[k]? = some x) : q.take (k + 1) = q.take k ++ [x] := by
  rw [List.take_succ, h]; rfl
set_option maxHeartbeats 4000000 in
set_option maxRecDepth 100000 in
theorem rp_leave {p : Program} {l : Launch} {e : Env} {R : Room} {s : State} {m : MethodId} {args : Array Value} {below : List Frame} {meth : Method} {c : Code} {D : va_G} {ad : Nat → Nat} {Q : State → Prop} (C : Fx p s m args meth c D ad cX6_leave 4 none yX6_leave.cls tb) (ρ : St) (q : List Int) (hq : QL ρ q) (hqr : ∀ x ∈ q, 0 ≤ x ∧ x < 12) (j : Nat) (hj : j < 12) (K : ∀ (ρ1 : St) (n i : Int), n = (q.filter (fun x => !decide (x = (j : Int)))).length → (∀ k, k < (q.filter (fun x => !decide (x = (j : Int)))).length → (q.filter (fun x => !decide (x = (j : Int))))[k]? = some (ρ1 21 k)) → (∀ n, n ≠ 21 → ρ1 n = ρ n) → X p l e R s m args below meth c D ad 4 Q (rc D ad ρ1) 43 [(3, vi i), (2, vi n), (0, .ref (ad 0)), (1, vi (j : Int))] []) (n i : Nat) (hn : q.length - i < n) (hi : i ≤ q.length) (ρ1 : St) (h1 : ∀ n, n ≠ 21 → ρ1 n = ρ n) (h2 : ∀ k, i ≤ k → ρ1 21 k = ρ 21 k) (F : List Int) (hF : F = (q.take i).filter (fun x => !decide (x = (j : Int)))) (h3 : ∀ k, k < F.length → F[k]? = some (ρ1 21 k)) : X p l e R s m args below meth c D ad 4 Q (rc D ad ρ1) 4 [(3, vi (i : Int)), (2, vi (F.length : Int)), (0, .ref (ad 0)), (1, vi (j : Int))] [] := by
  induction n generalizing i ρ1 F with
  | zero => omega
  | succ n ih =>
  refine x_iload_n C dX6_leave_4 rfl rfl ?_
  refine x_aload_n C dX6_leave_5 rfl rfl ?_
  refine x_get C (Cn := RX6) (T := TX6) (N := 33) (ci := 6) 22 dX6_leave_6 m_w_6 m_f_RX6_101 rfl (by decide) rfl rfl ?_
  rw [h1 0 (by decide), hq.1]
  refine x_icmp_ge (tgt := 43) C dX6_leave_9 (by decide) (by have := hq.2.1; omega) (by have := hq.2.1; omega) (fun c_9 => ?_) (fun c_9 => ?_)
  · obtain rfl : i = q.length := by omega
    rw [List.take_length] at hF
    subst hF
    exact K ρ1 _ _ rfl h3 h1
  · have hq12 := hq.2.1
    have hx := hq.2.2 i (by omega)
    have hxr := hqr _ (List.mem_of_getElem? hx)
    have hFl : F.length ≤ i := by
      rw [hF]; exact Nat.le_trans (List.length_filter_le _ _) (by rw [List.length_take]; omega)
    refine x_aload_n C dX6_leave_12 rfl rfl ?_
    refine x_get C (Cn := RX6) (T := TX6) (N := 33) (ci := 6) 21 dX6_leave_13 m_w_6 m_f_RX6_63 rfl (by decide) rfl rfl ?_
    refine x_iload_n C dX6_leave_16 rfl rfl ?_
    refine x_iald C dX6_leave_17 rfl (by omega) (by omega) ?_
    rw [Int.toNat_natCast, h2 i (Nat.le_refl i)]
    refine x_iload_n C dX6_leave_18 rfl rfl ?_
    refine x_icmp_eq (tgt := 37) C dX6_leave_19 (by decide) (by omega) (by omega) (fun c_19 => ?_) (fun c_19 => ?_)
    · refine x_iinc C (lv' := [(3, _), (2, _), (0, _), (1, _)]) dX6_leave_37 rfl (by decide) rfl ?_
      refine x_goto (tgt := 4) C dX6_leave_40 (by decide) ?_
      rw [show (i : Int) + 1 = ((i + 1 : Nat) : Int) by omega]
      refine ih (i + 1) (by omega) (by omega) ρ1 h1 (fun k hk => h2 k (by omega)) F ?_ h3
      rw [take_s hx, List.filter_append, ← hF]
      simp [c_19]
    · refine x_aload_n C dX6_leave_22 rfl rfl ?_
      refine x_get C (Cn := RX6) (T := TX6) (N := 33) (ci := 6) 21 dX6_leave_23 m_w_6 m_f_RX6_63 rfl (by decide) rfl rfl ?_
      refine x_iload_n C dX6_leave_26 rfl rfl ?_
      refine x_aload_n C dX6_leave_27 rfl rfl ?_
      refine x_get C (Cn := RX6) (T := TX6) (N := 33) (ci := 6) 21 dX6_leave_28 m_w_6 m_f_RX6_63 rfl (by decide) rfl rfl ?_
      refine x_iload_n C dX6_leave_31 rfl rfl ?_
      refine x_iald C dX6_leave_32 rfl (by omega) (by omega) ?_
      rw [Int.toNat_natCast, h2 i (Nat.le_refl i)]
      refine r_ast C dX6_leave_33 (fun _ => rfl) (by omega) (by omega) ?_
      rw [Int.toNat_natCast]
      refine x_iinc C (lv' := [(2, _), (3, _), (0, _), (1, _)]) dX6_leave_34 rfl (by decide) rfl ?_
      refine x_iinc C (lv' := [(3, _), (2, _), (0, _), (1, _)]) dX6_leave_37 rfl (by decide) rfl ?_
      refine x_goto (tgt := 4) C dX6_leave_40 (by decide) ?_
      rw [show (i : Int) + 1 = ((i + 1 : Nat) : Int) by omega]
      rw [show (F.length : Int) + 1 = ((F ++ [ρ 21 i]).length : Int) by simp]
      refine ih (i + 1) (by omega) (by omega) _ (fun n hn => by rw [up_n hn]; exact h1 n hn) (fun k hk => by rw [up_s, zup_n (by omega)]; exact h2 k (by omega)) _ ?_ ?_
      · rw [take_s hx, List.filter_append, ← hF]
        simp [c_19]
      · intro k hk
        rw [List.length_append, List.length_singleton] at hk
        rw [up_s]
        by_cases c : k = F.length
        · rw [c, zup_s, List.getElem?_append_right (Nat.le_refl _)]; simp
        · rw [zup_n c, List.getElem?_append_left (by omega)]; exact h3 k (by omega)
set_option maxHeartbeats 4000000 in
set_option maxRecDepth 100000 in
theorem r_leave {l : Launch} {D : va_G} {ad : Nat → Nat} {g : Nat × Nat × Nat × Nat} (hg : 3 ≤ g.1 ∧ g.1 ≤ 11 ∧ 8 ≤ g.2.1 ∧ g.2.1 ≤ 2048 ∧ 1 ≤ g.2.2.1 ∧ g.2.2.1 ≤ 24 ∧ 1 ≤ g.2.2.2 ∧ g.2.2.2 ≤ 12) (hnp : g.2.1 = 2 ^ g.1) (ρ : St) (hs : RS g ρ) (hM : MI g.1 (ρ 5)) (q : List Int) (hq : QL ρ q) (hqr : ∀ x ∈ q, 0 ≤ x ∧ x < 12) (j a b m0 : Nat) (hj : j < 12) (hlt : a < 24 ∧ b < 24 ∧ m0 < 24) (e14 : ρ 14 j = a) (e15 : ρ 15 j = b) (hm : (ρ 13 j = 3 ∧ ρ 16 j = m0) ∨ (ρ 13 j ≠ 3 ∧ ρ 16 j = -1)) (hB : ρ 20 j = -1 ∨ ∃ r o : Nat, ρ 19 j = r ∧ ρ 20 j = o ∧ BLr g (ρ 5) r o) : Rt l D ad yX6_leave (Cond.code yX6_leave cX6_leave 4 none :: tb) 1 40 [.ref (ad 0), vi (j : Int)] ρ (fun v ρ' => v = none ∧ LEV g ρ ρ' q j a b m0) := by
  refine ct_of (by decide) rfl (Nat.le_of_ble_eq_true rfl) ?_
  intro p e s m below meth c C
  change X _ _ _ _ _ _ _ _ _ _ _ _ _ _ _ _ [(0, .ref (ad 0)), (1, vi (j : Int))] _
  refine x_iconst C dX6_leave_0 ?_
  refine x_istore_n C (lv' := [(2, _), (0, _), (1, _)]) dX6_leave_1 rfl (by decide) rfl ?_
  refine x_iconst C dX6_leave_2 ?_
  refine x_istore_n C (lv' := [(3, _), (2, _), (0, _), (1, _)]) dX6_leave_3 rfl (by decide) rfl ?_
  refine rp_leave C ρ q hq hqr j hj ?_ (q.length + 1) 0 (by omega) (by omega) ρ (fun n hn => rfl) (fun k hk => rfl) [] rfl (fun k hk => by simp at hk)
  intro ρ1 n i en e1 e2
  have e14 : ρ1 14 j = a := by rw [e2 _ (by decide)]; exact e14
  have e15 : ρ1 15 j = b := by rw [e2 _ (by decide)]; exact e15
  have hm' : (ρ1 13 j = 3 ∧ ρ1 16 j = m0) ∨ (ρ1 13 j ≠ 3 ∧ ρ1 16 j = -1) := by rw [e2 _ (by decide), e2 _ (by decide)]; exact hm
  have hfl := List.length_filter_le (fun x => !decide (x = (j : Int))) q
  have hlv : LVQ ρ (up ρ1 0 22 n) q j := ⟨⟨by rw [up_s, zup_s, en], by have := hq.2.1; omega, fun k hk => by rw [up_n (by decide)]; exact e1 k hk⟩, fun n h0 h21 => by rw [up_n h0]; exact e2 n h21, fun k hk => by rw [up_s, zup_n hk, e2 _ (by decide)]⟩
  refine x_aload_n C dX6_leave_43 rfl rfl ?_
  refine x_iload_n C dX6_leave_44 rfl rfl ?_
  refine r_put C 22 (by decide) (by decide) dX6_leave_45 m_f_RX6_101 rfl (by decide +kernel) ?_
  refine x_aload_n C dX6_leave_48 rfl rfl ?_
  refine x_iload_n C dX6_leave_49 rfl rfl ?_
  refine x_callV C (ci := 6) (nn := 1) (r_unpin (up ρ1 0 22 n) j a b m0 hj hlt (by rw [up_n (by decide)]; exact e14) (by rw [up_n (by decide)]; exact e15) (by rw [up_n (by decide), up_n (by decide)]; exact hm')) g_RX6_159 rfl (by decide +kernel) ⟨by first | decide | omega, by first | decide | omega⟩ rfl rfl rfl rfl rfl (Nat.le_of_ble_eq_true rfl) dX6_leave_50 (fun v h1 hp => ?_)
  obtain ⟨ρ2, rfl, rfl, hU⟩ := hp
  rw [up_n (show 13 ≠ 0 by decide), e2 _ (by decide)] at hU
  have hrow : ∀ n, n ≠ 0 → n ≠ 10 → n ≠ 21 → ρ2 n = ρ n := by
    intro n h0 h10 h21
    rcases hU with ⟨-, rfl⟩ | ⟨-, rfl⟩ <;> simp only [dn, up_n h10, up_n h0] <;> exact e2 n h21
  have hr00 : ρ2 0 0 = ρ 0 0 := by
    rcases hU with ⟨-, rfl⟩ | ⟨-, rfl⟩ <;> simp only [dn, up_n (show 0 ≠ 10 by decide)] <;> exact hlv.2.2 0 (by decide)
  refine x_aload_n C dX6_leave_53 rfl rfl ?_
  refine x_get C (Cn := RX6) (T := TX6) (N := 33) (ci := 6) 20 dX6_leave_54 m_w_6 m_f_RX6_60 rfl (by decide) rfl rfl ?_
  refine x_iload_n C dX6_leave_57 rfl rfl ?_
  refine x_iald C dX6_leave_58 rfl (by omega) (by omega) ?_
  rw [Int.toNat_natCast, hrow 20 (by decide) (by decide) (by decide)]
  refine x_if_lt (tgt := 85) C dX6_leave_59 (by decide) (by rcases hB with q | ⟨r, o, -, q, b1, -⟩ <;> omega) (fun c_59 => ?_) (fun c_59 => ?_)
  · exact x_vret C dX6_leave_85 ⟨_, rfl, rfl, _, _, hlv, hU, Or.inl ⟨by rcases hB with q | ⟨r, o, -, q, -⟩ <;> omega, rfl⟩⟩
  · obtain ⟨r, o, e19, e20, b1, b2, b3, b4⟩ : ∃ r o : Nat, ρ 19 j = r ∧ ρ 20 j = o ∧ BLr g (ρ 5) r o := by
      rcases hB with q | q
      · omega
      · exact q
    refine x_aload_n C dX6_leave_62 rfl rfl ?_
    refine x_aload_n C dX6_leave_63 rfl rfl ?_
    refine x_get C (Cn := RX6) (T := TX6) (N := 33) (ci := 6) 19 dX6_leave_64 m_w_6 m_f_RX6_57 rfl (by decide) rfl rfl ?_
    refine x_iload_n C dX6_leave_67 rfl rfl ?_
    refine x_iald C dX6_leave_68 rfl (by omega) (by omega) ?_
    rw [Int.toNat_natCast, hrow 19 (by decide) (by decide) (by decide), e19]
    refine x_aload_n C dX6_leave_69 rfl rfl ?_
    refine x_get C (Cn := RX6) (T := TX6) (N := 33) (ci := 6) 20 dX6_leave_70 m_w_6 m_f_RX6_60 rfl (by decide) rfl rfl ?_
    refine x_iload_n C dX6_leave_73 rfl rfl ?_
    refine x_iald C dX6_leave_74 rfl (by omega) (by omega) ?_
    rw [Int.toNat_natCast, hrow 20 (by decide) (by decide) (by decide), e20]
    refine x_callV C (ci := 6) (nn := 2) (r_free hg hnp ρ2 (by rw [hr00]; exact hs.1) (by rw [hrow 5 (by decide) (by decide) (by decide)]; exact hM) r o b1 b2 b3 (by rw [hrow 5 (by decide) (by decide) (by decide)]; exact b4)) g_RX6_135 rfl (by decide +kernel) ⟨by first | decide | omega, by first | decide | omega⟩ rfl rfl rfl rfl rfl (Nat.le_of_ble_eq_true rfl) dX6_leave_75 (fun v h1 hp => ?_)
    obtain ⟨ρ3, rfl, rfl, rfl⟩ := hp
    rw [hrow 5 (by decide) (by decide) (by decide)]
    refine x_aload_n C dX6_leave_78 rfl rfl ?_
    refine x_get C (Cn := RX6) (T := TX6) (N := 33) (ci := 6) 20 dX6_leave_79 m_w_6 m_f_RX6_60 rfl (by decide) rfl rfl ?_
    refine x_iload_n C dX6_leave_82 rfl rfl ?_
    refine x_iconst C dX6_leave_83 ?_
    refine r_ast C dX6_leave_84 (fun _ => rfl) (by omega) (by omega) ?_
    rw [Int.toNat_natCast]
    exact x_vret C dX6_leave_85 ⟨_, rfl, rfl, _, _, hlv, hU, Or.inr ⟨r, o, e19, e20, rfl⟩⟩
set_option maxHeartbeats 4000000 in
set_option maxRecDepth 100000 in
theorem rp_startF {p : Program} {l : Launch} {e : Env} {R : Room} {s : State} {m : MethodId} {args : Array Value} {below : List Frame} {meth : Method} {c : Code} {D : va_G} {ad : Nat → Nat} {Q : State → Prop} (C : Fx p s m args meth c D ad cX6_start 7 none yX6_start.cls tb) {g : Nat × Nat × Nat × Nat} (hg : 3 ≤ g.1 ∧ g.1 ≤ 11 ∧ 8 ≤ g.2.1 ∧ g.2.1 ≤ 2048 ∧ 1 ≤ g.2.2.1 ∧ g.2.2.1 ≤ 24 ∧ 1 ≤ g.2.2.2 ∧ g.2.2.2 ≤ 12) (hnp : g.2.1 = 2 ^ g.1) (hR : 1 ≤ R.frames ∧ 40 ≤ R.locals) (ρ : St) (hs : RS g ρ) (hM : MI g.1 (ρ 5)) (n : Int) (hn : 0 ≤ n ∧ n ≤ 65536) (o : Nat) (ho : ordP n o) (a : Nat) (hB : HB g.1 (ρ 5) a o) (i6 i4 i3 : Int) (j : Nat) (K : ∀ lv, X p l e R s m args below meth c D ad 7 Q (rc D ad (upr ρ 5 (jnF g.1 12 (ρ 5) a o))) 99 lv []) : X p l e R s m args below meth c D ad 7 Q (rc D ad ρ) 89 [(6, vi i6), (5, vi (a : Int)), (4, vi i4), (3, vi i3), (2, vi n), (0, .ref (ad 0)), (1, vi (j : Int))] [] := by
  refine x_aload_n C dX6_start_89 rfl rfl ?_
  refine x_iload C dX6_start_90 rfl ?_
  refine x_iload_n C dX6_start_92 rfl rfl ?_
  refine x_callS C (nn := 1) (r_orderFor ρ n hn) g_RX6_117 rfl (by decide +kernel) ⟨by first | decide | omega, by first | decide | omega⟩ rfl rfl (Nat.le_of_ble_eq_true rfl) dX6_start_93 (fun v h1 hp => ?_)
  obtain ⟨ρ1, rfl, rfl, o2, rfl, ho2, -⟩ := hp
  obtain rfl := ord_u ho ho2
  refine x_callV C (ci := 6) (nn := 2) (r_free hg hnp ρ hs.1 hM a o hB.lt.2 hB.1 hB.2.1 hB.2.2.1) g_RX6_135 rfl (by decide +kernel) ⟨by first | decide | omega, by first | decide | omega⟩ rfl rfl rfl rfl rfl (Nat.le_of_ble_eq_true rfl) dX6_start_96 (fun v h1 hp => ?_)
  obtain ⟨ρ1, rfl, rfl, rfl⟩ := hp
  exact K _
set_option maxHeartbeats 4000000 in
set_option maxRecDepth 100000 in
theorem rp_startK {p : Program} {l : Launch} {e : Env} {R : Room} {s : State} {m : MethodId} {args : Array Value} {below : List Frame} {meth : Method} {c : Code} {D : va_G} {ad : Nat → Nat} {Q : State → Prop} (C : Fx p s m args meth c D ad cX6_start 7 none yX6_start.cls tb) {g : Nat × Nat × Nat × Nat} (hg : 3 ≤ g.1 ∧ g.1 ≤ 11 ∧ 8 ≤ g.2.1 ∧ g.2.1 ≤ 2048 ∧ 1 ≤ g.2.2.1 ∧ g.2.2.1 ≤ 24 ∧ 1 ≤ g.2.2.2 ∧ g.2.2.2 ≤ 12) (hR : 2 ≤ R.frames ∧ 80 ≤ R.locals) (ρ : St) (z o a h j : Nat) (ho : ordP z o) (hz : z ≤ 2048) (ha : a + z ≤ 2048) (hh : h < 24) (hj : j < 12) (i3 : Int) (K : ∀ lv, X p l e R s m args below meth c D ad 7 Q (rc D ad (stF (MAK ρ h z a o) h j)) 158 lv []) : X p l e R s m args below meth c D ad 7 Q (rc D ad ρ) 118 [(5, vi (a : Int)), (4, vi (h : Int)), (3, vi i3), (2, vi (z : Int)), (0, .ref (ad 0)), (1, vi (j : Int))] [] := by
  refine x_aload_n C dX6_start_118 rfl rfl ?_
  refine x_iload C dX6_start_119 rfl ?_
  refine x_iload_n C dX6_start_121 rfl rfl ?_
  refine x_iload C dX6_start_122 rfl ?_
  refine x_callV C (ci := 6) (nn := 3) (r_make ρ h z a hh hz ha) g_RX6_127 rfl (by decide +kernel) ⟨by first | decide | omega, by first | decide | omega⟩ rfl rfl rfl rfl rfl (Nat.le_of_ble_eq_true rfl) dX6_start_124 (fun v h1 hp => ?_)
  obtain ⟨ρ1, rfl, rfl, o2, ho2, rfl⟩ := hp
  obtain rfl := ord_u ho ho2
  refine x_aload_n C dX6_start_127 rfl rfl ?_
  refine x_get C (Cn := RX6) (T := TX6) (N := 33) (ci := 6) 11 dX6_start_128 m_w_6 m_f_RX6_32 rfl (by decide) rfl rfl ?_
  refine x_iload C dX6_start_131 rfl ?_
  refine x_iconst C dX6_start_133 ?_
  refine r_astz C dX6_start_134 (fun _ => rfl) (by omega) (by omega) (by omega) ?_
  rw [Int.toNat_natCast]
  refine x_aload_n C dX6_start_135 rfl rfl ?_
  refine x_get C (Cn := RX6) (T := TX6) (N := 33) (ci := 6) 10 dX6_start_136 m_w_6 m_f_RX6_29 rfl (by decide) rfl rfl ?_
  refine x_iload C dX6_start_139 rfl ?_
  refine x_iconst C dX6_start_141 ?_
  refine r_ast C dX6_start_142 (fun _ => rfl) (by omega) (by omega) ?_
  rw [Int.toNat_natCast]
  refine x_aload_n C dX6_start_143 rfl rfl ?_
  refine x_get C (Cn := RX6) (T := TX6) (N := 33) (ci := 6) 18 dX6_start_144 m_w_6 m_f_RX6_54 rfl (by decide) rfl rfl ?_
  refine x_iload_n C dX6_start_147 rfl rfl ?_
  refine x_iload C dX6_start_148 rfl ?_
  refine r_ast C dX6_start_150 (fun _ => rfl) (by omega) (by omega) ?_
  rw [Int.toNat_natCast]
  refine x_aload_n C dX6_start_151 rfl rfl ?_
  refine x_get C (Cn := RX6) (T := TX6) (N := 33) (ci := 6) 12 dX6_start_152 m_w_6 m_f_RX6_35 rfl (by decide) rfl rfl ?_
  refine x_iload_n C dX6_start_155 rfl rfl ?_
  refine x_iconst C dX6_start_156 ?_
  refine r_ast C dX6_start_157 (fun _ => rfl) (by omega) (by omega) ?_
  rw [Int.toNat_natCast]
  exact K _
set_option maxHeartbeats 4000000 in
set_option maxRecDepth 100000 in
theorem r_start {l : Launch} {D : va_G} {ad : Nat → Nat} {g : Nat × Nat × Nat × Nat} (hg : 3 ≤ g.1 ∧ g.1 ≤ 11 ∧ 8 ≤ g.2.1 ∧ g.2.1 ≤ 2048 ∧ 1 ≤ g.2.2.1 ∧ g.2.2.1 ≤ 24 ∧ 1 ≤ g.2.2.2 ∧ g.2.2.2 ≤ 12) (hnp : g.2.1 = 2 ^ g.1) (ρ : St) (hs : RS g ρ) (hF : RF ρ) (hM : MI g.1 (ρ 5)) (j a0 b0 m0 sa sb sm : Nat) (hj : j < 12) (hJ : JFr ρ j a0 b0 m0 sa sb sm) (hpos : 0 ≤ plL (ρ 13 j) sa sb sm) : Rt l D ad yX6_start (Cond.code yX6_start cX6_start 7 none :: tb) 2 80 [.ref (ad 0), vi (j : Int)] ρ (fun v ρ' => v = none ∧ STR g ρ ρ' j (plL (ρ 13 j) sa sb sm) (plR (ρ 13 j) sa sb sm)) := by
  refine ct_of (by decide) rfl (Nat.le_of_ble_eq_true rfl) ?_
  intro p e s m below meth c C
  change X _ _ _ _ _ _ _ _ _ _ _ _ _ _ _ _ [(0, .ref (ad 0)), (1, vi (j : Int))] _
  refine x_aload_n C dX6_start_0 rfl rfl ?_
  refine x_iload_n C dX6_start_1 rfl rfl ?_
  refine x_callV C (ci := 6) (nn := 1) (r_resultSize ρ j a0 b0 m0 sa sb sm hj hJ) g_RX6_153 rfl (by decide +kernel) ⟨by first | decide | omega, by first | decide | omega⟩ rfl rfl rfl rfl rfl (Nat.le_of_ble_eq_true rfl) dX6_start_2 (fun v h1 hp => ?_)
  obtain ⟨ρ1, rfl, rfl, rfl⟩ := hp
  refine x_istore_n C (lv' := [(2, _), (0, _), (1, _)]) dX6_start_5 rfl (by decide) rfl ?_
  refine x_aload_n C dX6_start_6 rfl rfl ?_
  refine x_iload_n C dX6_start_7 rfl rfl ?_
  refine x_callV C (ci := 6) (nn := 1) (r_roomSize ρ j a0 b0 m0 sa sb sm hj hJ) g_RX6_156 rfl (by decide +kernel) ⟨by first | decide | omega, by first | decide | omega⟩ rfl rfl rfl rfl rfl (Nat.le_of_ble_eq_true rfl) dX6_start_8 (fun v h1 hp => ?_)
  obtain ⟨ρ1, rfl, rfl, rfl⟩ := hp
  have hLb : plL (ρ 13 j) sa sb sm ≤ 65536 := by
    have := hJ.2.1; unfold plL; split
    · omega
    · split
      · omega
      · split <;> omega
  have hRb : 0 ≤ plR (ρ 13 j) sa sb sm ∧ plR (ρ 13 j) sa sb sm ≤ 65536 := by
    have := hJ.2.1; unfold plR; split
    · omega
    · split
      · omega
      · split <;> omega
  generalize plL (ρ 13 j) sa sb sm = n at *
  generalize plR (ρ 13 j) sa sb sm = room at *
  obtain ⟨z, rfl⟩ : ∃ z : Nat, n = z := ⟨n.toNat, by omega⟩
  refine x_istore_n C (lv' := [(3, _), (2, _), (0, _), (1, _)]) dX6_start_11 rfl (by decide) rfl ?_
  refine x_aload_n C dX6_start_12 rfl rfl ?_
  refine x_callV C (ci := 6) (nn := 0) (r_freeHandle hg ρ hs hF.1) g_RX6_121 rfl (by decide +kernel) ⟨by first | decide | omega, by first | decide | omega⟩ rfl rfl rfl rfl rfl (Nat.le_of_ble_eq_true rfl) dX6_start_13 (fun v h1 hp => ?_)
  obtain ⟨ρ1, rfl, rfl, r, rfl, hr⟩ := hp
  have hrr : -1 ≤ r ∧ r < 24 := by rcases hr with ⟨h1, -⟩ | ⟨k, h1, h2, -⟩ <;> omega
  refine x_istore C (lv' := [(4, _), (3, _), (2, _), (0, _), (1, _)]) dX6_start_16 (by decide) rfl ?_
  refine x_iload C dX6_start_18 rfl ?_
  refine x_if_ge (tgt := 24) C dX6_start_20 (by decide) (by omega) (fun c_20 => ?_) (fun c_20 => ?_)
  · rcases hr with ⟨h1, -⟩ | ⟨h, rfl, hh, h6, hl⟩
    · omega
    refine x_iload_n C dX6_start_24 rfl rfl ?_
    refine x_callS C (nn := 1) (r_orderFor ρ (z : Int) (by omega)) g_RX6_117 rfl (by decide +kernel) ⟨by first | decide | omega, by first | decide | omega⟩ rfl rfl (Nat.le_of_ble_eq_true rfl) dX6_start_25 (fun v h1 hp => ?_)
    obtain ⟨ρ1, rfl, rfl, o, rfl, ho, ho17⟩ := hp
    refine x_aload_n C dX6_start_28 rfl rfl ?_
    refine x_get C (Cn := RX6) (T := TX6) (N := 33) (ci := 6) 0 dX6_start_29 m_w_6 m_f_RX6_85 rfl (by decide) rfl rfl ?_
    rw [hs.1]
    refine x_icmp_le (tgt := 39) C dX6_start_32 (by decide) (by omega) (by omega) (fun c_32 => ?_) (fun c_32 => ?_)
    · refine x_aload_n C dX6_start_39 rfl rfl ?_
      refine x_iload_n C dX6_start_40 rfl rfl ?_
      refine x_callS C (nn := 1) (r_orderFor ρ (z : Int) (by omega)) g_RX6_117 rfl (by decide +kernel) ⟨by first | decide | omega, by first | decide | omega⟩ rfl rfl (Nat.le_of_ble_eq_true rfl) dX6_start_41 (fun v h1 hp => ?_)
      obtain ⟨ρ1, rfl, rfl, o2, rfl, ho2, -⟩ := hp
      obtain rfl := ord_u ho ho2
      refine x_callV C (ci := 6) (nn := 1) (r_give hg hnp ρ hs hM o (by omega)) g_RX6_124 rfl (by decide +kernel) ⟨by first | decide | omega, by first | decide | omega⟩ rfl rfl rfl rfl rfl (Nat.le_of_ble_eq_true rfl) dX6_start_44 (fun v h1 hp => ?_)
      obtain ⟨ρ1, rfl, r, rfl, hr⟩ := hp
      have hrr : -1 ≤ r ∧ r < 2048 := by rcases hr with ⟨h1, -⟩ | ⟨a, d, h1, h2, -⟩ <;> omega
      refine x_istore C (lv' := [(5, _), (4, _), (3, _), (2, _), (0, _), (1, _)]) dX6_start_47 (by decide) rfl ?_
      refine x_iload C dX6_start_49 rfl ?_
      refine x_if_ge (tgt := 55) C dX6_start_51 (by decide) (by omega) (fun c_51 => ?_) (fun c_51 => ?_)
      · obtain ⟨a, rfl⟩ : ∃ a : Nat, r = a := ⟨r.toNat, by omega⟩
        obtain ⟨hM1, hB1, hrow1⟩ := hr.mi (by omega) hnp hM
        have hs1 : RS g ρ1 := by unfold RS; rw [hrow1 0 (by decide)]; exact hs
        have hno := ho.1
        have hno2 : z ≤ 2 ^ o := by exact_mod_cast hno
        have hB1b := hB1.2.1
        have hfin : ∀ ρ' : St, (room = 0 ∧ ρ' = stF (MAK ρ1 h z a o) h j) ∨ (0 < room ∧ ∃ o2 : Nat, ordP room o2 ∧ o2 ≤ 17 ∧ (((¬ o2 ≤ g.1 ∨ ∀ b, b < g.2.1 → ¬ (o2 : Int) ≤ ρ1 5 b) ∧ ρ' = upr ρ1 5 (jnF g.1 12 (ρ1 5) a o)) ∨ (o2 ≤ g.1 ∧ ∃ (b : Nat) (ρ2 : St), rgP g ρ1 ρ2 o2 b ∧ ρ' = stF (MAK (up (up ρ2 19 j b) 20 j o2) h z a o) h j))) → STR g ρ ρ' j (z : Int) room := fun ρ' q => Or.inr ⟨h, o, hh, h6, hl, ho, ho17, Or.inr ⟨by omega, _, _, hr, Or.inr ⟨a, rfl, q⟩⟩⟩
        refine x_iload_n C dX6_start_55 rfl rfl ?_
        refine x_if_le (tgt := 118) C dX6_start_56 (by decide) (by omega) (fun c_56 => ?_) (fun c_56 => ?_)
        · refine rp_startK C hg ⟨by decide, by decide⟩ ρ1 z o a h j ho (by omega) (by omega) (by omega) hj _ ?_
          intro lv
          exact x_vret C dX6_start_158 ⟨_, rfl, rfl, hfin _ (Or.inl ⟨by omega, rfl⟩)⟩
        · refine x_iload_n C dX6_start_59 rfl rfl ?_
          refine x_callS C (nn := 1) (r_orderFor ρ1 room (by omega)) g_RX6_117 rfl (by decide +kernel) ⟨by first | decide | omega, by first | decide | omega⟩ rfl rfl (Nat.le_of_ble_eq_true rfl) dX6_start_60 (fun v h1 hp => ?_)
          obtain ⟨ρ2, rfl, rfl, o2, rfl, ho2, ho217⟩ := hp
          refine x_aload_n C dX6_start_63 rfl rfl ?_
          refine x_get C (Cn := RX6) (T := TX6) (N := 33) (ci := 6) 0 dX6_start_64 m_w_6 m_f_RX6_85 rfl (by decide) rfl rfl ?_
          rw [hs1.1]
          refine x_icmp_le (tgt := 74) C dX6_start_67 (by decide) (by omega) (by omega) (fun c_67 => ?_) (fun c_67 => ?_)
          · refine x_aload_n C dX6_start_74 rfl rfl ?_
            refine x_iload_n C dX6_start_75 rfl rfl ?_
            refine x_callS C (nn := 1) (r_orderFor ρ1 room (by omega)) g_RX6_117 rfl (by decide +kernel) ⟨by first | decide | omega, by first | decide | omega⟩ rfl rfl (Nat.le_of_ble_eq_true rfl) dX6_start_76 (fun v h1 hp => ?_)
            obtain ⟨ρ2, rfl, rfl, o3, rfl, ho3, -⟩ := hp
            obtain rfl := ord_u ho2 ho3
            refine x_callV C (ci := 6) (nn := 1) (r_give hg hnp ρ1 hs1 hM1 o2 (by omega)) g_RX6_124 rfl (by decide +kernel) ⟨by first | decide | omega, by first | decide | omega⟩ rfl rfl rfl rfl rfl (Nat.le_of_ble_eq_true rfl) dX6_start_79 (fun v h1 hp => ?_)
            obtain ⟨ρ2, rfl, r2, rfl, hr2⟩ := hp
            have hrr2 : -1 ≤ r2 ∧ r2 < 2048 := by rcases hr2 with ⟨h1, -⟩ | ⟨a, d, h1, h2, -⟩ <;> omega
            refine x_istore C (lv' := [(6, _), (5, _), (4, _), (3, _), (2, _), (0, _), (1, _)]) dX6_start_82 (by decide) rfl ?_
            refine x_iload C dX6_start_84 rfl ?_
            refine x_if_ge (tgt := 100) C dX6_start_86 (by decide) (by omega) (fun c_86 => ?_) (fun c_86 => ?_)
            · obtain ⟨b, rfl⟩ : ∃ b : Nat, r2 = b := ⟨r2.toNat, by omega⟩
              refine x_aload_n C dX6_start_100 rfl rfl ?_
              refine x_get C (Cn := RX6) (T := TX6) (N := 33) (ci := 6) 19 dX6_start_101 m_w_6 m_f_RX6_57 rfl (by decide) rfl rfl ?_
              refine x_iload_n C dX6_start_104 rfl rfl ?_
              refine x_iload C dX6_start_105 rfl ?_
              refine r_ast C dX6_start_107 (fun _ => rfl) (by omega) (by omega) ?_
              rw [Int.toNat_natCast]
              refine x_aload_n C dX6_start_108 rfl rfl ?_
              refine x_get C (Cn := RX6) (T := TX6) (N := 33) (ci := 6) 20 dX6_start_109 m_w_6 m_f_RX6_60 rfl (by decide) rfl rfl ?_
              refine x_iload_n C dX6_start_112 rfl rfl ?_
              refine x_iload_n C dX6_start_113 rfl rfl ?_
              refine x_callS C (nn := 1) (r_orderFor _ room (by omega)) g_RX6_117 rfl (by decide +kernel) ⟨by first | decide | omega, by first | decide | omega⟩ rfl rfl (Nat.le_of_ble_eq_true rfl) dX6_start_114 (fun v h1 hp => ?_)
              obtain ⟨ρ3, rfl, rfl, o3, rfl, ho3, -⟩ := hp
              obtain rfl := ord_u ho2 ho3
              refine r_ast C dX6_start_117 (fun _ => rfl) (by omega) (by omega) ?_
              rw [Int.toNat_natCast]
              refine X.sub [1, 2, 3, 4, 5, 6] rfl ?_
              refine rp_startK C hg ⟨by decide, by decide⟩ _ z o a h j ho (by omega) (by omega) (by omega) hj _ ?_
              intro lv
              exact x_vret C dX6_start_158 ⟨_, rfl, rfl, hfin _ (Or.inr ⟨by omega, o2, ho2, ho217, Or.inr ⟨by omega, b, ρ2, hr2, rfl⟩⟩)⟩
            · obtain ⟨e2, e3⟩ : ρ1 = ρ2 ∧ ∀ b, b < g.2.1 → ¬ (o2 : Int) ≤ ρ1 5 b := by
                rcases hr2 with ⟨-, h2⟩ | ⟨a, d, h1, -⟩
                · exact h2
                · omega
              subst e2
              refine rp_startF C hg hnp ⟨by decide, by decide⟩ ρ1 hs1 hM1 (z : Int) (by omega) o ho a hB1 _ _ _ j ?_
              intro lv
              exact x_vret C dX6_start_99 ⟨_, rfl, rfl, hfin _ (Or.inr ⟨by omega, o2, ho2, ho217, Or.inl ⟨Or.inr e3, rfl⟩⟩)⟩
          · refine x_iconst C dX6_start_70 ?_
            refine x_goto (tgt := 82) C dX6_start_71 (by decide) ?_
            refine x_istore C (lv' := [(6, _), (5, _), (4, _), (3, _), (2, _), (0, _), (1, _)]) dX6_start_82 (by decide) rfl ?_
            refine x_iload C dX6_start_84 rfl ?_
            refine x_if_ge (tgt := 100) C dX6_start_86 (by decide) (by omega) (fun q => by omega) (fun _ => ?_)
            refine rp_startF C hg hnp ⟨by decide, by decide⟩ ρ1 hs1 hM1 (z : Int) (by omega) o ho a hB1 _ _ _ j ?_
            intro lv
            exact x_vret C dX6_start_99 ⟨_, rfl, rfl, hfin _ (Or.inr ⟨by omega, o2, ho2, ho217, Or.inl ⟨Or.inl (by omega), rfl⟩⟩)⟩
      · exact x_vret C dX6_start_54 ⟨_, rfl, rfl, by
              have hr0 := hr
              rcases hr with ⟨-, h2, h3⟩ | ⟨a, d, h1, -⟩
              · subst h2; exact Or.inr ⟨h, o, hh, h6, hl, ho, ho17, Or.inr ⟨by omega, _, _, hr0, Or.inl ⟨by omega, rfl⟩⟩⟩
              · omega⟩
    · refine x_iconst C dX6_start_35 ?_
      refine x_goto (tgt := 47) C dX6_start_36 (by decide) ?_
      refine x_istore C (lv' := [(5, _), (4, _), (3, _), (2, _), (0, _), (1, _)]) dX6_start_47 (by decide) rfl ?_
      refine x_iload C dX6_start_49 rfl ?_
      refine x_if_ge (tgt := 55) C dX6_start_51 (by decide) (by omega) (fun q => by omega) (fun _ => ?_)
      exact x_vret C dX6_start_54 ⟨_, rfl, rfl, Or.inr ⟨h, o, hh, h6, hl, ho, ho17, Or.inl ⟨by omega, rfl⟩⟩⟩
  · exact x_vret C dX6_start_23 ⟨_, rfl, rfl, Or.inl ⟨by rcases hr with ⟨-, h2⟩ | ⟨k, h1, -⟩; exact h2; omega, rfl⟩⟩
