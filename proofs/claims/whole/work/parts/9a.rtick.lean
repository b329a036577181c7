/-! THE REFERENCE'S TICK: the queue is turned round -/
set_option maxHeartbeats 4000000 in
set_option maxRecDepth 100000 in
theorem rp_turn {p : Program} {l : Launch} {e : Env} {R : Room} {s : State} {m : MethodId} {args : Array Value} {below : List Frame} {meth : Method} {c : Code} {D : va_G} {ad : Nat → Nat} {Q : State → Prop} (C : Fx p s m args meth c D ad cX6_tick 3 (some .int) yX6_tick.cls tb) (ρ : St) (qn j : Nat) (hq : 1 ≤ qn ∧ qn ≤ 12) (e22 : ρ 0 22 = qn) (K : ∀ (ρ1 : St) (i2 : Int), (∀ i, i + 1 < qn → ρ1 21 i = ρ 21 (i + 1)) → (∀ n, n ≠ 21 → ρ1 n = ρ n) → X p l e R s m args below meth c D ad 3 Q (rc D ad ρ1) 145 [(2, vi i2), (1, vi (j : Int)), (0, .ref (ad 0))] []) (n k : Nat) (hn : qn - k < n) (hk : 1 ≤ k ∧ k ≤ qn) (ρ1 : St) (h1 : ∀ i, i + 1 < k → ρ1 21 i = ρ 21 (i + 1)) (h2 : ∀ i, k ≤ i → ρ1 21 i = ρ 21 i) (h3 : ∀ n, n ≠ 21 → ρ1 n = ρ n) : X p l e R s m args below meth c D ad 3 Q (rc D ad ρ1) 117 [(2, vi (k : Int)), (1, vi (j : Int)), (0, .ref (ad 0))] [] := by
  induction n generalizing k ρ1 with
  | zero => omega
  | succ n ih =>
  refine x_iload_n C dX6_tick_117 rfl rfl ?_
  refine x_aload_n C dX6_tick_118 rfl rfl ?_
  refine x_get C (Cn := RX6) (T := TX6) (N := 33) (ci := 6) 22 dX6_tick_119 m_w_6 m_f_RX6_101 rfl (by decide) rfl rfl ?_
  rw [h3 0 (by decide), e22]
  refine x_icmp_ge (tgt := 145) C dX6_tick_122 (by decide) (by omega) (by omega) (fun c_122 => ?_) (fun c_122 => ?_)
  · obtain rfl : k = qn := by omega
    exact K ρ1 _ h1 h3
  · refine x_aload_n C dX6_tick_125 rfl rfl ?_
    refine x_get C (Cn := RX6) (T := TX6) (N := 33) (ci := 6) 21 dX6_tick_126 m_w_6 m_f_RX6_63 rfl (by decide) rfl rfl ?_
    refine x_iload_n C dX6_tick_129 rfl rfl ?_
    refine x_iconst C dX6_tick_130 ?_
    refine x_isub C dX6_tick_131 ?_
    refine x_aload_n C dX6_tick_132 rfl rfl ?_
    refine x_get C (Cn := RX6) (T := TX6) (N := 33) (ci := 6) 21 dX6_tick_133 m_w_6 m_f_RX6_63 rfl (by decide) rfl rfl ?_
    refine x_iload_n C dX6_tick_136 rfl rfl ?_
    refine x_iald C dX6_tick_137 rfl (by omega) (by omega) ?_
    rw [Int.toNat_natCast, h2 k (Nat.le_refl k)]
    refine r_ast C dX6_tick_138 (fun _ => rfl) (by omega) (by omega) ?_
    refine x_iinc C (lv' := [(2, _), (1, _), (0, _)]) dX6_tick_139 rfl (by decide) rfl ?_
    refine x_goto (tgt := 117) C dX6_tick_142 (by decide) ?_
    rw [show (k : Int) + 1 = ((k + 1 : Nat) : Int) by omega]
    refine ih (k + 1) (by omega) (by omega) _ ?_ ?_ (fun n hn => by rw [up_n hn]; exact h3 n hn)
    · intro i hi
      rw [up_s, show ((k : Int) - 1).toNat = k - 1 by omega]
      by_cases c : i = k - 1
      · rw [c, zup_s, show k - 1 + 1 = k by omega]
      · rw [zup_n c]; exact h1 i (by omega)
    · intro i hi
      rw [up_s, show ((k : Int) - 1).toNat = k - 1 by omega, zup_n (by omega)]; exact h2 i (by omega)
