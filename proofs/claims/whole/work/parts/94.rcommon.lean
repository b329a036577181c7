/-! THE REFERENCE'S COMMON -/
theorem NRM.ext {f f' : Nat → Int} {n : Nat} (h : NRM f n) (he : ∀ i, i < n → f' i = f i) : NRM f' n := ⟨fun i hi => by rw [he i hi]; exact h.1 i hi, fun q => by rw [he _ (by omega)]; exact h.2 q⟩
theorem NRM.zero {f : Nat → Int} {n : Nat} (h : NRM f n) (hz : nv f 0 n = 0) : n = 0 := by
  rcases Nat.eq_zero_or_pos n with c | c
  · exact c
  · exfalso
    have e := nv_s f 0 (n - 1)
    rw [show n - 1 + 1 = n by omega, Nat.zero_add] at e
    have g1 := nv_ge (f := f) (a := 0) (n := n - 1) (lim0 (fun i hi => h.1 i (by omega)))
    have b := h.1 (n - 1) (by omega)
    have b2 := h.2 c
    have g2 : 0 < f (n - 1) * 2147483648 ^ (n - 1) := Int.mul_pos (by omega) (Int.pow_pos (by decide))
    omega
theorem NRM.pos {f : Nat → Int} {n : Nat} (h : NRM f n) (hn : 0 < n) : 0 < nv f 0 n := by
  have g := nv_ge (f := f) (a := 0) (n := n) (lim0 h.1)
  rcases Int.lt_or_le 0 (nv f 0 n) with c | c
  · exact c
  · have := h.zero (by omega); omega
theorem NRM.lt {f f' : Nat → Int} {n n' : Nat} (h : NRM f n) (h' : NRM f' n') (hn : n < n') : nv f 0 n < nv f' 0 n' := by
  have g1 := nv_lt (f := f) (a := 0) (n := n) (lim0 h.1)
  have e := nv_s f' 0 (n' - 1)
  rw [show n' - 1 + 1 = n' by omega, Nat.zero_add] at e
  have g2 := nv_ge (f := f') (a := 0) (n := n' - 1) (lim0 (fun i hi => h'.1 i (by omega)))
  have b := h'.1 (n' - 1) (by omega)
  have b2 := h'.2 (by omega)
  have g3 : (2147483648 : Int) ^ n ≤ 2147483648 ^ (n' - 1) := by
    obtain ⟨d, hd⟩ : ∃ d, n' - 1 = n + d := ⟨n' - 1 - n, by omega⟩
    rw [hd, Int.pow_add]
    have hp1 : (0 : Int) < 2147483648 ^ n := Int.pow_pos (by decide)
    have hp2 : (0 : Int) < 2147483648 ^ d := Int.pow_pos (by decide)
    have := Int.mul_le_mul_of_nonneg_left (show (1 : Int) ≤ 2147483648 ^ d by omega) (show (0 : Int) ≤ 2147483648 ^ n by omega)
    omega
  have g4 := Int.mul_le_mul_of_nonneg_right (show 1 ≤ f' (n' - 1) by omega) (show (0 : Int) ≤ 2147483648 ^ (n' - 1) by have : (0 : Int) < 2147483648 ^ (n' - 1) := Int.pow_pos (by decide); omega)
  omega
/-- after divide, in one form: the rest stands in u -/
theorem DVP.rest {ρ ρ' : St} {un vn : Nat} (hU : NRM (ρ 24) un) (hV : NRM (ρ 25) vn) (hvn : 0 < vn) (e29 : ρ 0 29 = un) (h : DVP ρ ρ' un vn) : ∃ rn : Nat, rn ≤ vn ∧ ρ' 0 29 = rn ∧ (∀ k, k ≠ 29 → ρ' 0 k = ρ 0 k) ∧ (∀ q, q ≠ 0 → q ≠ 24 → q ≠ 25 → q ≠ 26 → ρ' q = ρ q) ∧ (∀ i, i < vn → ρ' 25 i = ρ 25 i) ∧ NRM (ρ' 24) rn ∧ nv (ρ' 24) 0 rn = nv (ρ 24) 0 un % nv (ρ 25) 0 vn := by
  rcases h with ⟨h1, rfl⟩ | ⟨h1, rn, h2, h3, h4, h5, h6, h7, -⟩
  · exact ⟨un, by omega, e29, fun k _ => rfl, fun q _ _ _ _ => rfl, fun i _ => rfl, hU, (Int.emod_eq_of_lt (nv_ge (lim0 hU.1)) (hU.lt hV h1)).symm⟩
  · exact ⟨rn, h2, by rw [h3, zup_s], fun k hk => by rw [h3, zup_n hk], h4, h5, h6, h7⟩
set_option maxHeartbeats 4000000 in
set_option maxRecDepth 100000 in
theorem rp_swap {p : Program} {l : Launch} {e : Env} {R : Room} {s : State} {m : MethodId} {args : Array Value} {below : List Frame} {meth : Method} {c : Code} {D : va_G} {ad : Nat → Nat} {Q : State → Prop} (C : Fx p s m args meth c D ad cX6_common 5 none yX6_common.cls tb) (ρ : St) (un vn mx j : Nat) (hmx : un ≤ mx ∧ vn ≤ mx ∧ mx ≤ 2100) (e29 : ρ 0 29 = un) (e30 : ρ 0 30 = vn) (K : ∀ (ρ1 : St) (i3 i4 : Int) (lv : List (Nat × Value)), (∀ i, i < vn → ρ1 24 i = ρ 25 i) → (∀ i, i < un → ρ1 25 i = ρ 24 i) → (∀ q, q ≠ 24 → q ≠ 25 → ρ1 q = ρ q) → lk 0 lv = some (.ref (ad 0)) → lk 1 lv = some (vi (j : Int)) → lk 2 lv = some (vi (mx : Int)) → X p l e R s m args below meth c D ad 5 Q (rc D ad ρ1) 119 [(2, vi (mx : Int)), (0, .ref (ad 0)), (1, vi (j : Int))] []) (n i : Nat) (hn : mx - i < n) (hi : i ≤ mx) (ρ1 : St) (h1 : ∀ q, q < i → q < vn → ρ1 24 q = ρ 25 q) (h2 : ∀ q, q < i → q < un → ρ1 25 q = ρ 24 q) (h4 : ∀ q, i ≤ q → ρ1 24 q = ρ 24 q) (h5 : ∀ q, i ≤ q → ρ1 25 q = ρ 25 q) (h3 : ∀ q, q ≠ 24 → q ≠ 25 → ρ1 q = ρ q) : X p l e R s m args below meth c D ad 5 Q (rc D ad ρ1) 56 [(3, vi (i : Int)), (2, vi (mx : Int)), (0, .ref (ad 0)), (1, vi (j : Int))] [] := by
  induction n generalizing i ρ1 with
  | zero => omega
  | succ n ih =>
  refine x_iload_n C dX6_common_56 rfl rfl ?_
  refine x_iload_n C dX6_common_57 rfl rfl ?_
  refine x_icmp_ge (tgt := 119) C dX6_common_58 (by decide) (by omega) (by omega) (fun c_58 => ?_) (fun c_58 => ?_)
  · obtain rfl : i = mx := by omega
    refine X.sub [1, 2, 3] rfl ?_
    exact K ρ1 0 0 [(2, vi (i : Int)), (0, .ref (ad 0)), (1, vi (j : Int))] (fun q hq => h1 q (by omega) hq) (fun q hq => h2 q (by omega) hq) h3 rfl rfl rfl
  · refine x_iload_n C dX6_common_61 rfl rfl ?_
    refine x_aload_n C dX6_common_62 rfl rfl ?_
    refine x_get C (Cn := RX6) (T := TX6) (N := 33) (ci := 6) 30 dX6_common_63 m_w_6 m_f_RX6_182 rfl (by decide) rfl rfl ?_
    rw [h3 0 (by decide) (by decide), e30]
    refine x_icmp_ge (tgt := 78) C dX6_common_66 (by decide) (by omega) (by omega) (fun c_66 => ?_) (fun c_66 => ?_)
    · refine x_iconst C dX6_common_78 ?_
      refine x_istore C (lv' := [(4, _), (3, _), (2, _), (0, _), (1, _)]) dX6_common_79 (by decide) rfl ?_
      refine x_aload_n C dX6_common_81 rfl rfl ?_
      refine x_get C (Cn := RX6) (T := TX6) (N := 33) (ci := 6) 25 dX6_common_82 m_w_6 m_f_RX6_69 rfl (by decide) rfl rfl ?_
      refine x_iload_n C dX6_common_85 rfl rfl ?_
      refine x_iload_n C dX6_common_86 rfl rfl ?_
      refine x_aload_n C dX6_common_87 rfl rfl ?_
      refine x_get C (Cn := RX6) (T := TX6) (N := 33) (ci := 6) 29 dX6_common_88 m_w_6 m_f_RX6_179 rfl (by decide) rfl rfl ?_
      rw [h3 0 (by decide) (by decide), e29]
      refine x_icmp_ge (tgt := 103) C dX6_common_91 (by decide) (by omega) (by omega) (fun c_91 => ?_) (fun c_91 => ?_)
      · refine x_iconst C dX6_common_103 ?_
        refine r_ast C dX6_common_104 (fun _ => rfl) (by omega) (by omega) ?_
        refine x_aload_n C dX6_common_105 rfl rfl ?_
        refine x_get C (Cn := RX6) (T := TX6) (N := 33) (ci := 6) 24 dX6_common_106 m_w_6 m_f_RX6_66 rfl (by decide) rfl rfl ?_
        refine x_iload_n C dX6_common_109 rfl rfl ?_
        refine x_iload C dX6_common_110 rfl ?_
        refine r_ast C dX6_common_112 (fun _ => rfl) (by omega) (by omega) ?_
        refine x_iinc C (lv' := [(3, _), (4, _), (2, _), (0, _), (1, _)]) dX6_common_113 rfl (by decide) rfl ?_
        refine x_goto (tgt := 56) C dX6_common_116 (by decide) ?_
        refine X.sub [0, 2, 3, 4] rfl ?_
        rw [show (i : Int) + 1 = ((i + 1 : Nat) : Int) by omega]
        simp only [Int.toNat_natCast]
        refine ih (i + 1) (by omega) (by omega) _ ?_ ?_ ?_ ?_ (fun q q1 q2 => by rw [up_n q1, up_n q2]; exact h3 q q1 q2)
        · intro q q1 q2
          rw [up_s]
          by_cases c : q = i
          · rw [c, zup_s]
            all_goals omega
          · rw [zup_n c, up_n (by decide)]; exact h1 q (by omega) q2
        · intro q q1 q2
          rw [up_n (by decide), up_s]
          by_cases c : q = i
          · rw [c, zup_s]
            all_goals omega
          · rw [zup_n c]; exact h2 q (by omega) q2
        · intro q hq; rw [up_s, zup_n (by omega), up_n (by decide)]; exact h4 q (by omega)
        · intro q hq; rw [up_n (by decide), up_s, zup_n (by omega)]; exact h5 q (by omega)
      · refine x_aload_n C dX6_common_94 rfl rfl ?_
        refine x_get C (Cn := RX6) (T := TX6) (N := 33) (ci := 6) 24 dX6_common_95 m_w_6 m_f_RX6_66 rfl (by decide) rfl rfl ?_
        refine x_iload_n C dX6_common_98 rfl rfl ?_
        refine x_iald C dX6_common_99 rfl (by omega) (by omega) ?_
        rw [Int.toNat_natCast, h4 i (Nat.le_refl i)]
        refine x_goto (tgt := 104) C dX6_common_100 (by decide) ?_
        refine r_ast C dX6_common_104 (fun _ => rfl) (by omega) (by omega) ?_
        refine x_aload_n C dX6_common_105 rfl rfl ?_
        refine x_get C (Cn := RX6) (T := TX6) (N := 33) (ci := 6) 24 dX6_common_106 m_w_6 m_f_RX6_66 rfl (by decide) rfl rfl ?_
        refine x_iload_n C dX6_common_109 rfl rfl ?_
        refine x_iload C dX6_common_110 rfl ?_
        refine r_ast C dX6_common_112 (fun _ => rfl) (by omega) (by omega) ?_
        refine x_iinc C (lv' := [(3, _), (4, _), (2, _), (0, _), (1, _)]) dX6_common_113 rfl (by decide) rfl ?_
        refine x_goto (tgt := 56) C dX6_common_116 (by decide) ?_
        refine X.sub [0, 2, 3, 4] rfl ?_
        rw [show (i : Int) + 1 = ((i + 1 : Nat) : Int) by omega]
        simp only [Int.toNat_natCast]
        refine ih (i + 1) (by omega) (by omega) _ ?_ ?_ ?_ ?_ (fun q q1 q2 => by rw [up_n q1, up_n q2]; exact h3 q q1 q2)
        · intro q q1 q2
          rw [up_s]
          by_cases c : q = i
          · rw [c, zup_s]
            all_goals omega
          · rw [zup_n c, up_n (by decide)]; exact h1 q (by omega) q2
        · intro q q1 q2
          rw [up_n (by decide), up_s]
          by_cases c : q = i
          · rw [c, zup_s]
            all_goals omega
          · rw [zup_n c]; exact h2 q (by omega) q2
        · intro q hq; rw [up_s, zup_n (by omega), up_n (by decide)]; exact h4 q (by omega)
        · intro q hq; rw [up_n (by decide), up_s, zup_n (by omega)]; exact h5 q (by omega)
    · refine x_aload_n C dX6_common_69 rfl rfl ?_
      refine x_get C (Cn := RX6) (T := TX6) (N := 33) (ci := 6) 25 dX6_common_70 m_w_6 m_f_RX6_69 rfl (by decide) rfl rfl ?_
      refine x_iload_n C dX6_common_73 rfl rfl ?_
      refine x_iald C dX6_common_74 rfl (by omega) (by omega) ?_
      rw [Int.toNat_natCast, h5 i (Nat.le_refl i)]
      refine x_goto (tgt := 79) C dX6_common_75 (by decide) ?_
      refine x_istore C (lv' := [(4, _), (3, _), (2, _), (0, _), (1, _)]) dX6_common_79 (by decide) rfl ?_
      refine x_aload_n C dX6_common_81 rfl rfl ?_
      refine x_get C (Cn := RX6) (T := TX6) (N := 33) (ci := 6) 25 dX6_common_82 m_w_6 m_f_RX6_69 rfl (by decide) rfl rfl ?_
      refine x_iload_n C dX6_common_85 rfl rfl ?_
      refine x_iload_n C dX6_common_86 rfl rfl ?_
      refine x_aload_n C dX6_common_87 rfl rfl ?_
      refine x_get C (Cn := RX6) (T := TX6) (N := 33) (ci := 6) 29 dX6_common_88 m_w_6 m_f_RX6_179 rfl (by decide) rfl rfl ?_
      rw [h3 0 (by decide) (by decide), e29]
      refine x_icmp_ge (tgt := 103) C dX6_common_91 (by decide) (by omega) (by omega) (fun c_91 => ?_) (fun c_91 => ?_)
      · refine x_iconst C dX6_common_103 ?_
        refine r_ast C dX6_common_104 (fun _ => rfl) (by omega) (by omega) ?_
        refine x_aload_n C dX6_common_105 rfl rfl ?_
        refine x_get C (Cn := RX6) (T := TX6) (N := 33) (ci := 6) 24 dX6_common_106 m_w_6 m_f_RX6_66 rfl (by decide) rfl rfl ?_
        refine x_iload_n C dX6_common_109 rfl rfl ?_
        refine x_iload C dX6_common_110 rfl ?_
        refine r_ast C dX6_common_112 (fun _ => rfl) (by omega) (by omega) ?_
        refine x_iinc C (lv' := [(3, _), (4, _), (2, _), (0, _), (1, _)]) dX6_common_113 rfl (by decide) rfl ?_
        refine x_goto (tgt := 56) C dX6_common_116 (by decide) ?_
        refine X.sub [0, 2, 3, 4] rfl ?_
        rw [show (i : Int) + 1 = ((i + 1 : Nat) : Int) by omega]
        simp only [Int.toNat_natCast]
        refine ih (i + 1) (by omega) (by omega) _ ?_ ?_ ?_ ?_ (fun q q1 q2 => by rw [up_n q1, up_n q2]; exact h3 q q1 q2)
        · intro q q1 q2
          rw [up_s]
          by_cases c : q = i
          · rw [c, zup_s]
            all_goals omega
          · rw [zup_n c, up_n (by decide)]; exact h1 q (by omega) q2
        · intro q q1 q2
          rw [up_n (by decide), up_s]
          by_cases c : q = i
          · rw [c, zup_s]
            all_goals omega
          · rw [zup_n c]; exact h2 q (by omega) q2
        · intro q hq; rw [up_s, zup_n (by omega), up_n (by decide)]; exact h4 q (by omega)
        · intro q hq; rw [up_n (by decide), up_s, zup_n (by omega)]; exact h5 q (by omega)
      · refine x_aload_n C dX6_common_94 rfl rfl ?_
        refine x_get C (Cn := RX6) (T := TX6) (N := 33) (ci := 6) 24 dX6_common_95 m_w_6 m_f_RX6_66 rfl (by decide) rfl rfl ?_
        refine x_iload_n C dX6_common_98 rfl rfl ?_
        refine x_iald C dX6_common_99 rfl (by omega) (by omega) ?_
        rw [Int.toNat_natCast, h4 i (Nat.le_refl i)]
        refine x_goto (tgt := 104) C dX6_common_100 (by decide) ?_
        refine r_ast C dX6_common_104 (fun _ => rfl) (by omega) (by omega) ?_
        refine x_aload_n C dX6_common_105 rfl rfl ?_
        refine x_get C (Cn := RX6) (T := TX6) (N := 33) (ci := 6) 24 dX6_common_106 m_w_6 m_f_RX6_66 rfl (by decide) rfl rfl ?_
        refine x_iload_n C dX6_common_109 rfl rfl ?_
        refine x_iload C dX6_common_110 rfl ?_
        refine r_ast C dX6_common_112 (fun _ => rfl) (by omega) (by omega) ?_
        refine x_iinc C (lv' := [(3, _), (4, _), (2, _), (0, _), (1, _)]) dX6_common_113 rfl (by decide) rfl ?_
        refine x_goto (tgt := 56) C dX6_common_116 (by decide) ?_
        refine X.sub [0, 2, 3, 4] rfl ?_
        rw [show (i : Int) + 1 = ((i + 1 : Nat) : Int) by omega]
        simp only [Int.toNat_natCast]
        refine ih (i + 1) (by omega) (by omega) _ ?_ ?_ ?_ ?_ (fun q q1 q2 => by rw [up_n q1, up_n q2]; exact h3 q q1 q2)
        · intro q q1 q2
          rw [up_s]
          by_cases c : q = i
          · rw [c, zup_s]
            all_goals omega
          · rw [zup_n c, up_n (by decide)]; exact h1 q (by omega) q2
        · intro q q1 q2
          rw [up_n (by decide), up_s]
          by_cases c : q = i
          · rw [c, zup_s]
            all_goals omega
          · rw [zup_n c]; exact h2 q (by omega) q2
        · intro q hq; rw [up_s, zup_n (by omega), up_n (by decide)]; exact h4 q (by omega)
        · intro q hq; rw [up_n (by decide), up_s, zup_n (by omega)]; exact h5 q (by omega)
set_option maxHeartbeats 4000000 in
set_option maxRecDepth 100000 in
theorem rp_com {p : Program} {l : Launch} {e : Env} {R : Room} {s : State} {m : MethodId} {args : Array Value} {below : List Frame} {meth : Method} {c : Code} {D : va_G} {ad : Nat → Nat} {Q : State → Prop} (C : Fx p s m args meth c D ad cX6_common 5 none yX6_common.cls tb) (hR : 3 ≤ R.frames ∧ 160 ≤ R.locals) (ρ : St) (j : Nat) (G0 : Int) (K : ∀ (ρ1 : St) (un : Nat) lv, un ≤ 2048 → ρ1 0 29 = un → (∀ k, k ≠ 29 → k ≠ 30 → ρ1 0 k = ρ 0 k) → (∀ q, q ≠ 0 → q ≠ 24 → q ≠ 25 → q ≠ 26 → ρ1 q = ρ q) → NRM (ρ1 24) un → nv (ρ1 24) 0 un = G0 → X p l e R s m args below meth c D ad 5 Q (rc D ad ρ1) 140 lv []) (n : Nat) (un vn : Nat) (ρ1 : St) (hb : un ≤ 2048 ∧ vn ≤ 2048) (hn : nv (ρ1 25) 0 vn < n) (e29 : ρ1 0 29 = un) (e30 : ρ1 0 30 = vn) (h0 : ∀ k, k ≠ 29 → k ≠ 30 → ρ1 0 k = ρ 0 k) (h3 : ∀ q, q ≠ 0 → q ≠ 24 → q ≠ 25 → q ≠ 26 → ρ1 q = ρ q) (hU : NRM (ρ1 24) un) (hV : NRM (ρ1 25) vn) (hG : gd (nv (ρ1 24) 0 un) (nv (ρ1 25) 0 vn) = G0) : X p l e R s m args below meth c D ad 5 Q (rc D ad ρ1) 20 [(0, .ref (ad 0)), (1, vi (j : Int))] [] := by
  induction n generalizing un vn ρ1 with
  | zero => have := nv_ge (f := ρ1 25) (a := 0) (n := vn) (lim0 hV.1); omega
  | succ n ih =>
  refine x_aload_n C dX6_common_20 rfl rfl ?_
  refine x_get C (Cn := RX6) (T := TX6) (N := 33) (ci := 6) 30 dX6_common_21 m_w_6 m_f_RX6_182 rfl (by decide) rfl rfl ?_
  rw [e30]
  refine x_if_le (tgt := 140) C dX6_common_24 (by decide) (by omega) (fun c_24 => ?_) (fun c_24 => ?_)
  · obtain rfl : vn = 0 := by omega
    rw [nv_0, gd_0 (nv_ge (lim0 hU.1))] at hG
    exact K ρ1 un _ hb.1 e29 h0 h3 hU hG
  · have hvp : 0 < vn := by omega
    have hVpos := hV.pos hvp
    refine x_aload_n C dX6_common_27 rfl rfl ?_
    refine x_callV C (ci := 6) (nn := 0) (r_divide ρ1 un vn e29 e30 (by omega) (by omega) hU hV) g_RX6_219 rfl (by decide +kernel) ⟨by first | decide | omega, by first | decide | omega⟩ rfl rfl rfl rfl rfl (Nat.le_of_ble_eq_true rfl) dX6_common_28 (fun v h1 hp => ?_)
    obtain ⟨ρ2, rfl, rfl, hp⟩ := hp
    obtain ⟨rn, g1, g2, g3, g4, g5, g6, g7⟩ := hp.rest hU hV hvp e29
    have g30 : ρ2 0 30 = vn := by rw [g3 30 (by decide)]; exact e30
    have hV2 : NRM (ρ2 25) vn := hV.ext g5
    refine x_aload_n C dX6_common_31 rfl rfl ?_
    refine x_get C (Cn := RX6) (T := TX6) (N := 33) (ci := 6) 29 dX6_common_32 m_w_6 m_f_RX6_179 rfl (by decide) rfl rfl ?_
    rw [g2]
    refine x_aload_n C dX6_common_35 rfl rfl ?_
    refine x_get C (Cn := RX6) (T := TX6) (N := 33) (ci := 6) 30 dX6_common_36 m_w_6 m_f_RX6_182 rfl (by decide) rfl rfl ?_
    rw [g30]
    refine x_icmp_le (tgt := 49) C dX6_common_39 (by decide) (by omega) (by omega) (fun c_39 => ?_) (fun c_39 => ?_)
    · refine x_aload_n C dX6_common_49 rfl rfl ?_
      refine x_get C (Cn := RX6) (T := TX6) (N := 33) (ci := 6) 30 dX6_common_50 m_w_6 m_f_RX6_182 rfl (by decide) rfl rfl ?_
      rw [g30]
      refine x_istore_n C (lv' := [(2, _), (0, _), (1, _)]) dX6_common_53 rfl (by decide) rfl ?_
      refine x_iconst C dX6_common_54 ?_
      refine x_istore_n C (lv' := [(3, _), (2, _), (0, _), (1, _)]) dX6_common_55 rfl (by decide) rfl ?_
      refine rp_swap C ρ2 rn vn vn j (by omega) g2 g30 ?_ (vn + 1) 0 (by omega) (by omega) ρ2 (fun q h _ => by omega) (fun q h _ => by omega) (fun q h => rfl) (fun q h => rfl) (fun q _ _ => rfl)
      intro ρ3 i3 i4 lv k1 k2 k3 _ _ _
      have k0 : ρ3 0 = ρ2 0 := k3 0 (by decide) (by decide)
      refine x_aload_n C dX6_common_119 rfl rfl ?_
      refine x_get C (Cn := RX6) (T := TX6) (N := 33) (ci := 6) 29 dX6_common_120 m_w_6 m_f_RX6_179 rfl (by decide) rfl rfl ?_
      rw [k0, g2]
      refine x_istore_n C (lv' := [(3, _), (2, _), (0, _), (1, _)]) dX6_common_123 rfl (by decide) rfl ?_
      refine x_aload_n C dX6_common_124 rfl rfl ?_
      refine x_aload_n C dX6_common_125 rfl rfl ?_
      refine x_get C (Cn := RX6) (T := TX6) (N := 33) (ci := 6) 30 dX6_common_126 m_w_6 m_f_RX6_182 rfl (by decide) rfl rfl ?_
      rw [k0, g30]
      refine r_put C 29 (by decide) (by decide) dX6_common_129 m_f_RX6_179 rfl (by decide +kernel) ?_
      refine x_aload_n C dX6_common_132 rfl rfl ?_
      refine x_iload_n C dX6_common_133 rfl rfl ?_
      refine r_put C 30 (by decide) (by decide) dX6_common_134 m_f_RX6_182 rfl (by decide +kernel) ?_
      refine x_goto (tgt := 20) C dX6_common_137 (by decide) ?_
      refine X.sub [2, 3] rfl ?_
      have f24 : up (up ρ3 0 29 (vn : Int)) 0 30 (rn : Int) 24 = ρ3 24 := by rw [up_n (by decide), up_n (by decide)]
      have f25 : up (up ρ3 0 29 (vn : Int)) 0 30 (rn : Int) 25 = ρ3 25 := by rw [up_n (by decide), up_n (by decide)]
      have hu' : nv (ρ3 24) 0 vn = nv (ρ1 25) 0 vn := nv_ext (fun i hi => by rw [k1 _ (by omega), g5 _ (by omega)])
      have hv' : nv (ρ3 25) 0 rn = nv (ρ1 24) 0 un % nv (ρ1 25) 0 vn := by rw [← g7]; exact nv_ext (fun i hi => k2 _ (by omega))
      have hm := Int.emod_lt_of_pos (nv (ρ1 24) 0 un) hVpos
      refine ih vn rn _ (by omega) (by rw [f25, hv']; omega) (by rw [up_s, zup_n (by decide), up_s, zup_s]) (by rw [up_s, zup_s]) ?_ ?_ (by rw [f24]; exact hV2.ext k1) (by rw [f25]; exact g6.ext k2) (by rw [f24, f25, hu', hv', ← gd_step (nv_ge (lim0 hU.1)) hVpos]; exact hG)
      · intro k h29 h30
        rw [up_s, zup_n h30, up_s, zup_n h29, k0, g3 k h29]; exact h0 k h29 h30
      · intro q q0 q24 q25 q26
        rw [up_n q0, up_n q0, k3 q q24 q25, g4 q q0 q24 q25 q26]; exact h3 q q0 q24 q25 q26
    · omega
theorem sg_nrm {ρ : St} {A z r : Nat} {f : Nat → Int} (hL : LMr ρ) (hAz : A + z ≤ 2048) (h : sgP (ρ 4) A z r) : NRM (mvF f (fun k => ρ 4 (A + k)) r) r ∧ nv (mvF f (fun k => ρ 4 (A + k)) r) 0 r = nv (ρ 4) A z := by
  have hr := h.1
  refine ⟨⟨fun i hi => ?_, fun q => ?_⟩, ?_⟩
  · unfold mvF; rw [if_pos hi]; exact hL _ (by omega)
  · unfold mvF; rw [if_pos (by omega)]; exact h.2.2 q
  · rw [nv_top hr h.2.1]
    exact nv_ext (fun i hi => by unfold mvF; rw [Nat.zero_add, if_pos hi])
theorem LMr.row {ρ ρ' : St} (h : LMr ρ) (e : ρ' 4 = ρ 4) : LMr ρ' := fun i hi => by rw [e]; exact h i hi
/-- after common: u holds the divisor -/
def CMP (ρ ρ' : St) (G0 : Int) : Prop := ∃ un : Nat, un ≤ 2048 ∧ ρ' 0 29 = un ∧ (∀ k, k ≠ 29 → k ≠ 30 → ρ' 0 k = ρ 0 k) ∧ (∀ q, q ≠ 0 → q ≠ 24 → q ≠ 25 → q ≠ 26 → ρ' q = ρ q) ∧ NRM (ρ' 24) un ∧ nv (ρ' 24) 0 un = G0
set_option maxHeartbeats 4000000 in
set_option maxRecDepth 100000 in
theorem r_common {l : Launch} {D : va_G} {ad : Nat → Nat} (ρ : St) (hL : LMr ρ) (j a b Aa na Ab nb : Nat) (hj : j < 12) (ea : ρ 14 j = a) (eb : ρ 15 j = b) (hab : a < 24 ∧ b < 24) (hAa : ρ 8 a = Aa) (hna : ρ 7 a = na) (hla : Aa + na ≤ 2048) (hAb : ρ 8 b = Ab) (hnb : ρ 7 b = nb) (hlb : Ab + nb ≤ 2048) : Rt l D ad yX6_common (Cond.code yX6_common cX6_common 5 none :: tb) 3 160 [.ref (ad 0), vi (j : Int)] ρ (fun v ρ' => v = none ∧ CMP ρ ρ' (gd (nv (ρ 4) Aa na) (nv (ρ 4) Ab nb))) := by
  refine ct_of (by decide) rfl (Nat.le_of_ble_eq_true rfl) ?_
  intro p e s m below meth c C
  change X _ _ _ _ _ _ _ _ _ _ _ _ _ _ _ _ [(0, .ref (ad 0)), (1, vi (j : Int))] _
  refine x_aload_n C dX6_common_0 rfl rfl ?_
  refine x_aload_n C dX6_common_1 rfl rfl ?_
  refine x_get C (Cn := RX6) (T := TX6) (N := 33) (ci := 6) 14 dX6_common_2 m_w_6 m_f_RX6_41 rfl (by decide) rfl rfl ?_
  refine x_iload_n C dX6_common_5 rfl rfl ?_
  refine x_iald C dX6_common_6 rfl (by omega) (by omega) ?_
  rw [Int.toNat_natCast, ea]
  refine x_callV C (ci := 6) (nn := 1) (r_loadU ρ hL a Aa na hab.1 hAa hna hla) g_RX6_203 rfl (by decide +kernel) ⟨by first | decide | omega, by first | decide | omega⟩ rfl rfl rfl rfl rfl (Nat.le_of_ble_eq_true rfl) dX6_common_7 (fun v h1 hp => ?_)
  obtain ⟨ρ1, rfl, rfl, ru, hru, rfl⟩ := hp
  obtain ⟨hU, eU⟩ := sg_nrm (f := ρ 24) hL hla hru
  have hru1 := hru.1
  refine x_aload_n C dX6_common_10 rfl rfl ?_
  refine x_aload_n C dX6_common_11 rfl rfl ?_
  refine x_get C (Cn := RX6) (T := TX6) (N := 33) (ci := 6) 15 dX6_common_12 m_w_6 m_f_RX6_44 rfl (by decide) rfl rfl ?_
  refine x_iload_n C dX6_common_15 rfl rfl ?_
  refine x_iald C dX6_common_16 rfl (by omega) (by omega) ?_
  rw [Int.toNat_natCast, upr_n (by decide), up_n (by decide), eb]
  refine x_callV C (ci := 6) (nn := 1) (r_loadV _ (hL.row (by rw [upr_n (by decide), up_n (by decide)])) b Ab nb hab.2 (by rw [upr_n (by decide), up_n (by decide)]; exact hAb) (by rw [upr_n (by decide), up_n (by decide)]; exact hnb) hlb) g_RX6_216 rfl (by decide +kernel) ⟨by first | decide | omega, by first | decide | omega⟩ rfl rfl rfl rfl rfl (Nat.le_of_ble_eq_true rfl) dX6_common_17 (fun v h1 hp => ?_)
  obtain ⟨ρ1, rfl, rfl, rv, hrv, rfl⟩ := hp
  rw [upr_n (show 4 ≠ 24 by decide), up_n (show 4 ≠ 0 by decide)] at hrv
  obtain ⟨hV, eV⟩ := sg_nrm (f := ρ 25) hL hlb hrv
  have hrv1 := hrv.1
  obtain ⟨ρ1, e1⟩ : ∃ ρ1, ρ1 = (upr (up (upr (up ρ 0 29 (ru : Int)) 24 (mvF (ρ 24) (fun k => ρ 4 (Aa + k)) ru)) 0 30 (rv : Int)) 25 (mvF (upr (up ρ 0 29 (ru : Int)) 24 (mvF (ρ 24) (fun k => ρ 4 (Aa + k)) ru) 25) (fun k => upr (up ρ 0 29 (ru : Int)) 24 (mvF (ρ 24) (fun k => ρ 4 (Aa + k)) ru) 4 (Ab + k)) rv)) := ⟨_, rfl⟩
  rw [← e1]
  have f24 : ρ1 24 = mvF (ρ 24) (fun k => ρ 4 (Aa + k)) ru := by rw [e1, upr_n (by decide), up_n (by decide), upr_s]
  have f25 : ρ1 25 = mvF (ρ 25) (fun k => ρ 4 (Ab + k)) rv := by rw [e1, upr_s, upr_n (show 25 ≠ 24 by decide), up_n (show 25 ≠ 0 by decide), upr_n (show 4 ≠ 24 by decide), up_n (show 4 ≠ 0 by decide)]
  refine rp_com C ⟨by decide, by decide⟩ ρ j (gd (nv (ρ 4) Aa na) (nv (ρ 4) Ab nb)) ?_ ((nv (ρ1 25) 0 rv).toNat + 1) ru rv ρ1 (by omega) (by omega) ?_ ?_ ?_ ?_ (by rw [f24]; exact hU) (by rw [f25]; exact hV) (by rw [f24, f25, eU, eV])
  · intro ρ2 un lv k1 k2 k3 k4 k5 k6
    exact x_vret C dX6_common_140 ⟨_, rfl, rfl, un, k1, k2, k3, k4, k5, k6⟩
  · rw [e1, upr_n (by decide), up_s, zup_n (by decide), upr_n (by decide), up_s, zup_s]
  · rw [e1, upr_n (by decide), up_s, zup_s]
  · intro k h29 h30; rw [e1, upr_n (by decide), up_s, zup_n h30, upr_n (by decide), up_s, zup_n h29]
  · intro q q0 q24 q25 q26; rw [e1, upr_n q25, up_n q0, upr_n q24, up_n q0]
