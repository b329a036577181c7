/-! THE REFERENCE'S DIVIDE: the divisor to the left, the quotient -/
set_option maxHeartbeats 4000000 in
set_option maxRecDepth 100000 in
theorem rp_shlV {p : Program} {l : Launch} {e : Env} {R : Room} {s : State} {m : MethodId} {args : Array Value} {below : List Frame} {meth : Method} {c : Code} {D : va_G} {ad : Nat → Nat} {Q : State → Prop} (C : Fx p s m args meth c D ad cX6_divide 5 none yX6_divide.cls tb) (ρ : St) (nn s0 : Nat) (hs : s0 ≤ 30) (hnn : nn ≤ 2100) (f : Nat → Int) (hf : ∀ i, i < nn → 0 ≤ f i ∧ f i < 2147483648) (K : ∀ (ρ1 : St) (i3 : Int), (∀ i, i < nn → ρ1 25 i = sl f s0 i) → (∀ q, nn ≤ q → ρ1 25 q = ρ 25 q) → (∀ q, q ≠ 25 → ρ1 q = ρ q) → X p l e R s m args below meth c D ad 5 Q (rc D ad ρ1) 169 [(3, vi i3), (2, vi (nn : Int)), (1, vi (s0 : Int)), (0, .ref (ad 0))] []) (n i : Nat) (hn : i < n) (hi : i ≤ nn) (z : Int) (hz : z = (i : Int) - 1) (ρ1 : St) (h1 : ∀ q, q < i → ρ1 25 q = f q) (h2 : ∀ q, i ≤ q → q < nn → ρ1 25 q = sl f s0 q) (h4 : ∀ q, nn ≤ q → ρ1 25 q = ρ 25 q) (h3 : ∀ q, q ≠ 25 → ρ1 q = ρ q) : X p l e R s m args below meth c D ad 5 Q (rc D ad ρ1) 113 [(3, vi z), (2, vi (nn : Int)), (1, vi (s0 : Int)), (0, .ref (ad 0))] [] := by
  induction n generalizing i z ρ1 with
  | zero => omega
  | succ n ih =>
  refine x_iload_n C dX6_divide_113 rfl rfl ?_
  refine x_if_lt (tgt := 169) C dX6_divide_114 (by decide) (by omega) (fun c_114 => ?_) (fun c_114 => ?_)
  · obtain rfl : i = 0 := by omega
    exact K ρ1 _ (fun i hi => h2 i (by omega) hi) h4 h3
  · obtain ⟨i, rfl⟩ : ∃ i1, i = i1 + 1 := ⟨i - 1, by omega⟩
    obtain rfl : z = (i : Int) := by omega
    have hfi := hf i (by omega)
    obtain ⟨-, -, -, mv1, mv2⟩ := mvup (s := s0) (by omega) hfi
    have hmm := Int.emod_nonneg (f i) (show (2 : Int) ^ (31 - s0) ≠ 0 by have := zp_pos (31 - s0); omega)
    refine x_aload_n C dX6_divide_117 rfl rfl ?_
    refine x_get C (Cn := RX6) (T := TX6) (N := 33) (ci := 6) 25 dX6_divide_118 m_w_6 m_f_RX6_69 rfl (by decide) rfl rfl ?_
    refine x_iload_n C dX6_divide_121 rfl rfl ?_
    refine x_aload_n C dX6_divide_122 rfl rfl ?_
    refine x_get C (Cn := RX6) (T := TX6) (N := 33) (ci := 6) 25 dX6_divide_123 m_w_6 m_f_RX6_69 rfl (by decide) rfl rfl ?_
    refine x_iload_n C dX6_divide_126 rfl rfl ?_
    refine x_iald C dX6_divide_127 rfl (by omega) (by omega) ?_
    rw [Int.toNat_natCast, h1 i (by omega)]
    refine x_i2l C dX6_divide_128 (by omega) ?_
    refine x_iload_n C dX6_divide_129 rfl rfl ?_
    refine x_lshl C dX6_divide_130 (by omega) ?_
    rw [Int.toNat_natCast]
    refine x_ldc2 C (z := 2147483647) dX6_divide_131 (C.2.2.2.2.1 _ m_k_RX6_189) (by decide) ?_
    refine x_land C (z := _) dX6_divide_134 (lI_mask _) ?_
    rw [sl_mod (by omega) hfi]
    refine x_l2i C dX6_divide_135 ?_
    refine x_iload_n C dX6_divide_136 rfl rfl ?_
    refine x_if_eq (tgt := 144) C dX6_divide_137 (by decide) (by omega) (fun c_137 => ?_) (fun c_137 => ?_)
    · have hY : (0 : Int) ≤ 0 ∧ (0 : Int) < 2 ^ s0 := ⟨by omega, zp_pos s0⟩
      have hcl : cl f s0 i = 0 := by
        unfold cl
        by_cases ci : i = 0
        · rw [if_pos ci]
        · rw [if_neg ci]
          obtain rfl : s0 = 0 := by omega
          have hb := hf (i - 1) (by omega)
          exact Int.ediv_eq_zero_of_lt hb.1 hb.2
      have hval : f i % 2 ^ (31 - s0) * 2 ^ s0 + 0 = sl f s0 i := by
        unfold sl; rw [hcl]
      refine x_iconst C dX6_divide_144 ?_
      refine x_goto (tgt := 161) C dX6_divide_145 (by decide) ?_
      refine x_ior C (z := _) dX6_divide_161 (iI_or _ (by omega) rfl hmm hY (by omega)) ?_
      refine r_ast C dX6_divide_162 (fun _ => rfl) (by omega) (by omega) ?_
      refine x_iinc C (lv' := [(3, _), (2, _), (1, _), (0, _)]) dX6_divide_163 rfl (by decide) rfl ?_
      refine x_goto (tgt := 113) C dX6_divide_166 (by decide) ?_
      refine ih i (by omega) (by omega) _ (by omega) _ ?_ ?_ ?_ (fun q hq => by rw [up_n hq]; exact h3 q hq)
      · intro q hq; rw [up_s, Int.toNat_natCast, zup_n (by omega)]; exact h1 q (by omega)
      · intro q hq1 hq2
        rw [up_s, Int.toNat_natCast]
        by_cases c : q = i
        · rw [c, zup_s]; exact hval
        · rw [zup_n c]; exact h2 q (by omega) hq2
      · intro q hq; rw [up_s, Int.toNat_natCast, zup_n (by omega)]; exact h4 q hq
    · refine x_iload_n C dX6_divide_140 rfl rfl ?_
      refine x_if_ne (tgt := 148) C dX6_divide_141 (by decide) (by omega) (fun c_141 => ?_) (fun c_141 => ?_)
      · have hfj := hf (i - 1) (by omega)
        obtain ⟨-, mw1, mw2, -⟩ := mvup (s := s0) (by omega) hfj
        refine x_aload_n C dX6_divide_148 rfl rfl ?_
        refine x_get C (Cn := RX6) (T := TX6) (N := 33) (ci := 6) 25 dX6_divide_149 m_w_6 m_f_RX6_69 rfl (by decide) rfl rfl ?_
        refine x_iload_n C dX6_divide_152 rfl rfl ?_
        refine x_iconst C dX6_divide_153 ?_
        refine x_isub C dX6_divide_154 ?_
        refine x_iald C dX6_divide_155 rfl (by omega) (by omega) ?_
        rw [show ((i : Int) - 1).toNat = i - 1 by omega, h1 (i - 1) (by omega)]
        refine x_bipush C (z := 31) dX6_divide_156 (by decide) ?_
        refine x_iload_n C dX6_divide_158 rfl rfl ?_
        refine x_isub C dX6_divide_159 ?_
        refine x_ishr C dX6_divide_160 (by omega) (by omega) ?_
        rw [show ((31 : Int) - (s0 : Int)).toNat = 31 - s0 by omega]
        have hY : (0 : Int) ≤ f (i - 1) / 2 ^ (31 - s0) ∧ f (i - 1) / 2 ^ (31 - s0) < 2 ^ s0 := ⟨mw1, mw2⟩
        have hval : f i % 2 ^ (31 - s0) * 2 ^ s0 + f (i - 1) / 2 ^ (31 - s0) = sl f s0 i := by
          unfold sl cl
          rw [if_neg (by omega)]
        refine x_ior C (z := _) dX6_divide_161 (iI_or _ (by omega) rfl hmm hY (by omega)) ?_
        refine r_ast C dX6_divide_162 (fun _ => rfl) (by omega) (by omega) ?_
        refine x_iinc C (lv' := [(3, _), (2, _), (1, _), (0, _)]) dX6_divide_163 rfl (by decide) rfl ?_
        refine x_goto (tgt := 113) C dX6_divide_166 (by decide) ?_
        refine ih i (by omega) (by omega) _ (by omega) _ ?_ ?_ ?_ (fun q hq => by rw [up_n hq]; exact h3 q hq)
        · intro q hq; rw [up_s, Int.toNat_natCast, zup_n (by omega)]; exact h1 q (by omega)
        · intro q hq1 hq2
          rw [up_s, Int.toNat_natCast]
          by_cases c : q = i
          · rw [c, zup_s]; exact hval
          · rw [zup_n c]; exact h2 q (by omega) hq2
        · intro q hq; rw [up_s, Int.toNat_natCast, zup_n (by omega)]; exact h4 q hq
      · have hY : (0 : Int) ≤ 0 ∧ (0 : Int) < 2 ^ s0 := ⟨by omega, zp_pos s0⟩
        have hcl : cl f s0 i = 0 := by
          unfold cl
          by_cases ci : i = 0
          · rw [if_pos ci]
          · rw [if_neg ci]
            obtain rfl : s0 = 0 := by omega
            have hb := hf (i - 1) (by omega)
            exact Int.ediv_eq_zero_of_lt hb.1 hb.2
        have hval : f i % 2 ^ (31 - s0) * 2 ^ s0 + 0 = sl f s0 i := by
          unfold sl; rw [hcl]
        refine x_iconst C dX6_divide_144 ?_
        refine x_goto (tgt := 161) C dX6_divide_145 (by decide) ?_
        refine x_ior C (z := _) dX6_divide_161 (iI_or _ (by omega) rfl hmm hY (by omega)) ?_
        refine r_ast C dX6_divide_162 (fun _ => rfl) (by omega) (by omega) ?_
        refine x_iinc C (lv' := [(3, _), (2, _), (1, _), (0, _)]) dX6_divide_163 rfl (by decide) rfl ?_
        refine x_goto (tgt := 113) C dX6_divide_166 (by decide) ?_
        refine ih i (by omega) (by omega) _ (by omega) _ ?_ ?_ ?_ (fun q hq => by rw [up_n hq]; exact h3 q hq)
        · intro q hq; rw [up_s, Int.toNat_natCast, zup_n (by omega)]; exact h1 q (by omega)
        · intro q hq1 hq2
          rw [up_s, Int.toNat_natCast]
          by_cases c : q = i
          · rw [c, zup_s]; exact hval
          · rw [zup_n c]; exact h2 q (by omega) hq2
        · intro q hq; rw [up_s, Int.toNat_natCast, zup_n (by omega)]; exact h4 q hq
/-- the quotient's loop: what is left at i -/
def QT (F U Qr : Nat → Int) (V : Int) (un nn i : Nat) : Prop := (nv U i nn < V) ∧ (∀ q, i + nn ≤ q → q ≤ un → U q = 0) ∧ (∀ q, q < i → U q = F q) ∧ (∀ q, i ≤ q → q ≤ un → 0 ≤ U q ∧ U q < 2147483648) ∧ (∀ q, i ≤ q → q < un + 1 - nn → 0 ≤ Qr q ∧ Qr q < 2147483648) ∧ nv F i (un + 1 - i) = nv Qr i (un + 1 - nn - i) * V + nv U i nn
theorem QT.step {F U U2 Qr : Nat → Int} {V x : Int} {un nn i : Nat} (hnn : 0 < nn) (hi : i + nn ≤ un) (hV : 0 < V) (h : QT F U Qr V un nn (i + 1)) (hx : x = nv U i (nn + 1) / V) (k1 : ∀ q, ¬ (i ≤ q ∧ q ≤ i + nn) → U2 q = U q) (k2 : ∀ q, i ≤ q → q ≤ i + nn → 0 ≤ U2 q ∧ U2 q < 2147483648) (k3 : U2 (i + nn) = 0) (k4 : nv U2 i nn = nv U i (nn + 1) % V) (hxb : 0 ≤ x ∧ x < 2147483648) : QT F U2 (zup Qr i x) V un nn i := by
  obtain ⟨h1, h2, h3, h4, h5, h6⟩ := h
  have m1 := Int.mul_ediv_add_emod (nv U i (nn + 1)) V
  have m3 := Int.emod_lt_of_pos (nv U i (nn + 1)) hV
  refine ⟨by rw [k4]; exact m3, fun q q1 q2 => ?_, fun q hq => by rw [k1 q (by omega)]; exact h3 q (by omega), fun q q1 q2 => ?_, fun q q1 q2 => ?_, ?_⟩
  · by_cases c : q = i + nn
    · rw [c]; exact k3
    · rw [k1 q (by omega)]; exact h2 q (by omega) q2
  · by_cases c : q ≤ i + nn
    · exact k2 q q1 c
    · rw [k1 q (by omega)]; exact h4 q (by omega) q2
  · by_cases c : q = i
    · rw [c, zup_s]; exact hxb
    · rw [zup_n c]; exact h5 q (by omega) q2
  · rw [show un + 1 - i = (un + 1 - (i + 1)) + 1 by omega, nv_hd, h6, show un + 1 - nn - i = (un + 1 - nn - (i + 1)) + 1 by omega, nv_hd, zup_s, nv_ext (f := zup Qr i x) (g := Qr) (a := i + 1) (b := i + 1) (fun k hk => zup_n (by omega)), k4]
    rw [nv_hd, h3 i (by omega)] at m1 ⊢
    rw [nv_hd, h3 i (by omega)] at hx
    rw [← hx] at m1
    rw [Int.mul_add, ← Int.mul_assoc, Int.add_mul, Int.mul_comm V x] at *
    omega
set_option maxHeartbeats 4000000 in
set_option maxRecDepth 100000 in
theorem rp_quo {p : Program} {l : Launch} {e : Env} {R : Room} {s : State} {m : MethodId} {args : Array Value} {below : List Frame} {meth : Method} {c : Code} {D : va_G} {ad : Nat → Nat} {Q : State → Prop} (C : Fx p s m args meth c D ad cX6_divide 5 none yX6_divide.cls tb) (hR : 1 ≤ R.frames ∧ 40 ≤ R.locals) (ρ : St) (un nn : Nat) (s0 : Int) (hnn : 0 < nn ∧ nn ≤ 2100) (hun : nn ≤ un ∧ un < 4200) (F : Nat → Int) (hF : ∀ i, i < un + 1 → 0 ≤ F i ∧ F i < 2147483648) (hV : ∀ i, i < nn → 0 ≤ ρ 25 i ∧ ρ 25 i < 2147483648) (hv1 : 1073741824 ≤ ρ 25 (nn - 1)) (hVp : 0 < nv (ρ 25) 0 nn) (K : ∀ (ρ1 : St) (i3 : Int), QT F (ρ1 24) (ρ1 26) (nv (ρ 25) 0 nn) un nn 0 → (∀ q, q ≠ 24 → q ≠ 26 → ρ1 q = ρ q) → X p l e R s m args below meth c D ad 5 Q (rc D ad ρ1) 199 [(3, vi i3), (2, vi (nn : Int)), (1, vi s0), (0, .ref (ad 0))] []) (n i : Nat) (hn : i < n) (hi : i + nn ≤ un + 1) (z : Int) (hz : z = (i : Int) - 1) (ρ1 : St) (h1 : QT F (ρ1 24) (ρ1 26) (nv (ρ 25) 0 nn) un nn i) (h3 : ∀ q, q ≠ 24 → q ≠ 26 → ρ1 q = ρ q) : X p l e R s m args below meth c D ad 5 Q (rc D ad ρ1) 176 [(3, vi z), (2, vi (nn : Int)), (1, vi s0), (0, .ref (ad 0))] [] := by
  induction n generalizing i z ρ1 with
  | zero => omega
  | succ n ih =>
  refine x_iload_n C dX6_divide_176 rfl rfl ?_
  refine x_if_lt (tgt := 199) C dX6_divide_177 (by decide) (by omega) (fun c_177 => ?_) (fun c_177 => ?_)
  · obtain rfl : i = 0 := by omega
    exact K ρ1 _ h1 h3
  · obtain ⟨i, rfl⟩ : ∃ i1, i = i1 + 1 := ⟨i - 1, by omega⟩
    obtain rfl : z = (i : Int) := by omega
    have h25 : ρ1 25 = ρ 25 := h3 25 (by decide) (by decide)
    have hUl : ∀ q, i ≤ q → q ≤ i + nn → 0 ≤ ρ1 24 q ∧ ρ1 24 q < 2147483648 := by
      intro q q1 q2
      by_cases c : q = i
      · rw [c, h1.2.2.1 i (by omega)]; exact hF i (by omega)
      · exact h1.2.2.2.1 q (by omega) (by omega)
    have hUi := hUl i (by omega) (by omega)
    have hlt : nv (ρ1 24) i (nn + 1) < nv (ρ1 25) 0 nn * 2147483648 := by
      have := h1.1
      rw [nv_hd, h25]
      omega
    have hxb : 0 ≤ nv (ρ1 24) i (nn + 1) / nv (ρ1 25) 0 nn ∧ nv (ρ1 24) i (nn + 1) / nv (ρ1 25) 0 nn < 2147483648 := by
      have hg := nv_ge (f := ρ1 24) (a := i) (n := nn + 1) (fun k hk => hUl _ (by omega) (by omega))
      exact ⟨Int.ediv_nonneg hg (by rw [h25]; omega), Int.ediv_lt_of_lt_mul (by rw [h25]; exact hVp) (by rw [Int.mul_comm]; exact hlt)⟩
    refine x_aload_n C dX6_divide_180 rfl rfl ?_
    refine x_get C (Cn := RX6) (T := TX6) (N := 33) (ci := 6) 26 dX6_divide_181 m_w_6 m_f_RX6_72 rfl (by decide) rfl rfl ?_
    refine x_iload_n C dX6_divide_184 rfl rfl ?_
    refine x_aload_n C dX6_divide_185 rfl rfl ?_
    refine x_iload_n C dX6_divide_186 rfl rfl ?_
    refine x_iload_n C dX6_divide_187 rfl rfl ?_
    refine x_callV C (ci := 6) (nn := 2) (r_digit ρ1 i nn hnn (by omega) (by rw [h25]; exact hV) hUl (by rw [h25]; exact hv1) hlt) g_RX6_191 rfl (by decide +kernel) ⟨by first | decide | omega, by first | decide | omega⟩ rfl rfl rfl rfl rfl (Nat.le_of_ble_eq_true rfl) dX6_divide_188 (fun v h1 hp => ?_)
    obtain ⟨ρ2, rfl, rfl, hD1, hD2, hD3, hD4, hD5⟩ := hp
    refine x_l2i C dX6_divide_191 ?_
    refine r_ast C dX6_divide_192 (fun _ => rfl) (by omega) (by omega) ?_
    refine x_iinc C (lv' := [(3, _), (2, _), (1, _), (0, _)]) dX6_divide_193 rfl (by decide) rfl ?_
    refine x_goto (tgt := 176) C dX6_divide_196 (by decide) ?_
    refine ih i (by omega) (by omega) _ (by omega) _ ?_ (fun q q1 q2 => by rw [up_n q2, hD1 q q1]; exact h3 q q1 q2)
    rw [up_n (show 24 ≠ 26 by decide), up_s, Int.toNat_natCast, hD1 26 (by decide)]
    exact QT.step hnn.1 (by omega) hVp h1 (by rw [h25]) hD2 hD3 hD4 (by rw [← h25]; exact hD5) hxb
