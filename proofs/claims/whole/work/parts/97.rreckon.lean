/-! THE REFERENCE'S RECKON: its loops -/
theorem pt_nv {f s : Nat → Int} {A n r : Nat} (h : r ≤ n) : nv (ptF f s A n r) A n = nv s 0 r := by
  rw [nv_top (f := ptF f s A n r) (a := A) h (fun i h1 h2 => by unfold ptF; rw [if_pos (by omega), if_neg (by omega)])]
  exact nv_ext (fun i hi => by unfold ptF; rw [if_pos (by omega), show A + i - A = i by omega, if_pos hi, Nat.zero_add])
theorem pt_lm {ρ : St} {s : Nat → Int} {A n r : Nat} (hL : LMr ρ) (hs : ∀ i, i < r → 0 ≤ s i ∧ s i < 2147483648) : LMr (upr ρ 4 (ptF (ρ 4) s A n r)) := by
  intro i hi
  rw [upr_s]
  unfold ptF
  split
  · split
    · exact hs _ (by assumption)
    · decide
  · exact hL i hi
/-- a number that is below 2^(31 n) has at most n limbs -/
theorem NRM.fit {f : Nat → Int} {r n : Nat} (h : NRM f r) (hv : nv f 0 r < 2147483648 ^ n) : r ≤ n := by
  rcases Nat.lt_or_ge n r with c | c
  · exfalso
    have e := nv_s f 0 (r - 1)
    rw [show r - 1 + 1 = r by omega, Nat.zero_add] at e
    have g1 := nv_ge (f := f) (a := 0) (n := r - 1) (lim0 (fun i hi => h.1 i (by omega)))
    have b := h.1 (r - 1) (by omega)
    have b2 := h.2 (by omega)
    have hp1 : (0 : Int) < 2147483648 ^ n := Int.pow_pos (by decide)
    have g3 : (2147483648 : Int) ^ n ≤ 2147483648 ^ (r - 1) := by
      obtain ⟨d, hd⟩ : ∃ d, r - 1 = n + d := ⟨r - 1 - n, by omega⟩
      rw [hd, Int.pow_add]
      have hp2 : (0 : Int) < 2147483648 ^ d := Int.pow_pos (by decide)
      have := Int.mul_le_mul_of_nonneg_left (show (1 : Int) ≤ 2147483648 ^ d by omega) (show (0 : Int) ≤ 2147483648 ^ n by omega)
      omega
    have g4 := Int.mul_le_mul_of_nonneg_right (show 1 ≤ f (r - 1) by omega) (show (0 : Int) ≤ 2147483648 ^ (r - 1) by omega)
    omega
  · exact c
set_option maxHeartbeats 4000000 in
set_option maxRecDepth 100000 in
theorem rp_recX {p : Program} {l : Launch} {e : Env} {R : Room} {s : State} {m : MethodId} {args : Array Value} {below : List Frame} {meth : Method} {c : Code} {D : va_G} {ad : Nat → Nat} {Q : State → Prop} (C : Fx p s m args meth c D ad cX6_reckon 5 none yX6_reckon.cls tb) (ρ : St) (r j h : Nat) (hr : r ≤ 2100) (hf : ρ 0 29 = r) (K : X p l e R s m args below meth c D ad 5 Q (rc D ad (upr ρ 27 (mvF (ρ 27) (ρ 24) r))) 100 [(2, vi (h : Int)), (0, .ref (ad 0)), (1, vi (j : Int))] []) (n i : Nat) (hn : r - i < n) (hi : i ≤ r) (ρ1 : St) (e1 : ρ1 = upr ρ 27 (mvF (ρ 27) (ρ 24) i)) : X p l e R s m args below meth c D ad 5 Q (rc D ad ρ1) 74 [(3, vi (i : Int)), (2, vi (h : Int)), (0, .ref (ad 0)), (1, vi (j : Int))] [] := by
  induction n generalizing i ρ1 with
  | zero => omega
  | succ n ih =>
  refine x_iload_n C dX6_reckon_74 rfl rfl ?_
  refine x_aload_n C dX6_reckon_75 rfl rfl ?_
  refine x_get C (Cn := RX6) (T := TX6) (N := 33) (ci := 6) 29 dX6_reckon_76 m_w_6 m_f_RX6_179 rfl (by decide) rfl rfl ?_
  rw [show ρ1 0 29 = r by rw [e1, upr_n (by decide)]; exact hf]
  refine x_icmp_ge (tgt := 100) C dX6_reckon_79 (by decide) (by omega) (by omega) (fun c_79 => ?_) (fun c_79 => ?_)
  · obtain rfl : i = r := by omega
    rw [e1]
    refine X.sub [1, 2, 3] rfl ?_
    exact K
  · refine x_aload_n C dX6_reckon_82 rfl rfl ?_
    refine x_get C (Cn := RX6) (T := TX6) (N := 33) (ci := 6) 27 dX6_reckon_83 m_w_6 m_f_RX6_75 rfl (by decide) rfl rfl ?_
    refine x_iload_n C dX6_reckon_86 rfl rfl ?_
    refine x_aload_n C dX6_reckon_87 rfl rfl ?_
    refine x_get C (Cn := RX6) (T := TX6) (N := 33) (ci := 6) 24 dX6_reckon_88 m_w_6 m_f_RX6_66 rfl (by decide) rfl rfl ?_
    refine x_iload_n C dX6_reckon_91 rfl rfl ?_
    refine x_iald C dX6_reckon_92 rfl (by omega) (by omega) ?_
    rw [Int.toNat_natCast, show ρ1 24 = ρ 24 by rw [e1, upr_n (by decide)]]
    refine r_ast C dX6_reckon_93 (fun _ => rfl) (by omega) (by omega) ?_
    refine x_iinc C (lv' := [(3, _), (2, _), (0, _), (1, _)]) dX6_reckon_94 rfl (by decide) rfl ?_
    refine x_goto (tgt := 74) C dX6_reckon_97 (by decide) ?_
    rw [show (i : Int) + 1 = ((i + 1 : Nat) : Int) by omega]
    refine ih (i + 1) (by omega) (by omega) _ ?_
    rw [Int.toNat_natCast, e1]
    exact mv_step ρ 27 i (ρ 24)
set_option maxHeartbeats 4000000 in
set_option maxRecDepth 100000 in
theorem rp_recQ {p : Program} {l : Launch} {e : Env} {R : Room} {s : State} {m : MethodId} {args : Array Value} {below : List Frame} {meth : Method} {c : Code} {D : va_G} {ad : Nat → Nat} {Q : State → Prop} (C : Fx p s m args meth c D ad cX6_reckon 5 none yX6_reckon.cls tb) (ρ : St) (h A z r j : Nat) (zr : Int) (hzr : -5000 ≤ zr ∧ zr ≤ 4200) (hr : r = zr.toNat) (hh : h < 24) (hA : ρ 8 h = A) (hz : ρ 7 h = z) (hAz : A + z ≤ 2048) (K : ∀ lv, X p l e R s m args below meth c D ad 5 Q (rc D ad (upr ρ 4 (ptF (ρ 4) (ρ 26) A z r))) 200 lv []) (n i : Nat) (hn : z - i < n) (hi : i ≤ z) (ρ1 : St) (e1 : ρ1 = upr ρ 4 (ptF (ρ 4) (ρ 26) A i r)) : X p l e R s m args below meth c D ad 5 Q (rc D ad ρ1) 152 [(4, vi (i : Int)), (3, vi zr), (2, vi (h : Int)), (0, .ref (ad 0)), (1, vi (j : Int))] [] := by
  induction n generalizing i ρ1 with
  | zero => omega
  | succ n ih =>
  refine x_iload C dX6_reckon_152 rfl ?_
  refine x_aload_n C dX6_reckon_154 rfl rfl ?_
  refine x_get C (Cn := RX6) (T := TX6) (N := 33) (ci := 6) 7 dX6_reckon_155 m_w_6 m_f_RX6_20 rfl (by decide) rfl rfl ?_
  refine x_iload_n C dX6_reckon_158 rfl rfl ?_
  refine x_iald C dX6_reckon_159 rfl (by omega) (by omega) ?_
  rw [Int.toNat_natCast, show ρ1 7 h = z by rw [e1, upr_n (by decide)]; exact hz]
  refine x_icmp_ge (tgt := 200) C dX6_reckon_160 (by decide) (by omega) (by omega) (fun c_160 => ?_) (fun c_160 => ?_)
  · obtain rfl : i = z := by omega
    rw [e1]
    exact K _
  · refine x_aload_n C dX6_reckon_163 rfl rfl ?_
    refine x_get C (Cn := RX6) (T := TX6) (N := 33) (ci := 6) 4 dX6_reckon_164 m_w_6 m_f_RX6_7 rfl (by decide) rfl rfl ?_
    refine x_aload_n C dX6_reckon_167 rfl rfl ?_
    refine x_get C (Cn := RX6) (T := TX6) (N := 33) (ci := 6) 8 dX6_reckon_168 m_w_6 m_f_RX6_23 rfl (by decide) rfl rfl ?_
    refine x_iload_n C dX6_reckon_171 rfl rfl ?_
    refine x_iald C dX6_reckon_172 rfl (by omega) (by omega) ?_
    rw [Int.toNat_natCast, show ρ1 8 h = A by rw [e1, upr_n (by decide)]; exact hA]
    refine x_iload C dX6_reckon_173 rfl ?_
    refine x_iadd C dX6_reckon_175 ?_
    refine x_iload C dX6_reckon_176 rfl ?_
    refine x_iload_n C dX6_reckon_178 rfl rfl ?_
    refine x_icmp_ge (tgt := 192) C dX6_reckon_179 (by decide) (by omega) (by omega) (fun c_179 => ?_) (fun c_179 => ?_)
    · have hsel : (if i < r then ρ 26 i else 0) = 0 := if_neg (by omega)
      refine x_iconst C dX6_reckon_192 ?_
      refine r_ast C dX6_reckon_193 (fun _ => rfl) (by omega) (by omega) ?_
      refine x_iinc C (lv' := [(4, _), (3, _), (2, _), (0, _), (1, _)]) dX6_reckon_194 rfl (by decide) rfl ?_
      refine x_goto (tgt := 152) C dX6_reckon_197 (by decide) ?_
      rw [show (i : Int) + 1 = ((i + 1 : Nat) : Int) by omega]
      refine ih (i + 1) (by omega) (by omega) _ ?_
      rw [← pt_step, hsel, show ((A : Int) + (i : Int)).toNat = A + i by omega, e1]
    · refine x_aload_n C dX6_reckon_182 rfl rfl ?_
      refine x_get C (Cn := RX6) (T := TX6) (N := 33) (ci := 6) 26 dX6_reckon_183 m_w_6 m_f_RX6_72 rfl (by decide) rfl rfl ?_
      refine x_iload C dX6_reckon_186 rfl ?_
      refine x_iald C dX6_reckon_188 rfl (by omega) (by omega) ?_
      rw [Int.toNat_natCast, show ρ1 26 = ρ 26 by rw [e1, upr_n (by decide)]]
      have hsel : (if i < r then ρ 26 i else 0) = ρ 26 i := if_pos (by omega)
      refine x_goto (tgt := 193) C dX6_reckon_189 (by decide) ?_
      refine r_ast C dX6_reckon_193 (fun _ => rfl) (by omega) (by omega) ?_
      refine x_iinc C (lv' := [(4, _), (3, _), (2, _), (0, _), (1, _)]) dX6_reckon_194 rfl (by decide) rfl ?_
      refine x_goto (tgt := 152) C dX6_reckon_197 (by decide) ?_
      rw [show (i : Int) + 1 = ((i + 1 : Nat) : Int) by omega]
      refine ih (i + 1) (by omega) (by omega) _ ?_
      rw [← pt_step, hsel, show ((A : Int) + (i : Int)).toNat = A + i by omega, e1]
set_option maxHeartbeats 4000000 in
set_option maxRecDepth 100000 in
theorem rp_recR {p : Program} {l : Launch} {e : Env} {R : Room} {s : State} {m : MethodId} {args : Array Value} {below : List Frame} {meth : Method} {c : Code} {D : va_G} {ad : Nat → Nat} {Q : State → Prop} (C : Fx p s m args meth c D ad cX6_reckon 5 none yX6_reckon.cls tb) (ρ : St) (h A z r j : Nat) (hr : r ≤ 2100) (hf : ρ 0 32 = r) (hh : h < 24) (hA : ρ 8 h = A) (hz : ρ 7 h = z) (hAz : A + z ≤ 2048) (K : ∀ lv, X p l e R s m args below meth c D ad 5 Q (rc D ad (upr ρ 4 (ptF (ρ 4) (ρ 28) A z r))) 275 lv []) (n i : Nat) (hn : z - i < n) (hi : i ≤ z) (ρ1 : St) (e1 : ρ1 = upr ρ 4 (ptF (ρ 4) (ρ 28) A i r)) : X p l e R s m args below meth c D ad 5 Q (rc D ad ρ1) 224 [(4, vi (i : Int)), (2, vi (h : Int)), (0, .ref (ad 0)), (1, vi (j : Int))] [] := by
  induction n generalizing i ρ1 with
  | zero => omega
  | succ n ih =>
  refine x_iload C dX6_reckon_224 rfl ?_
  refine x_aload_n C dX6_reckon_226 rfl rfl ?_
  refine x_get C (Cn := RX6) (T := TX6) (N := 33) (ci := 6) 7 dX6_reckon_227 m_w_6 m_f_RX6_20 rfl (by decide) rfl rfl ?_
  refine x_iload_n C dX6_reckon_230 rfl rfl ?_
  refine x_iald C dX6_reckon_231 rfl (by omega) (by omega) ?_
  rw [Int.toNat_natCast, show ρ1 7 h = z by rw [e1, upr_n (by decide)]; exact hz]
  refine x_icmp_ge (tgt := 275) C dX6_reckon_232 (by decide) (by omega) (by omega) (fun c_232 => ?_) (fun c_232 => ?_)
  · obtain rfl : i = z := by omega
    rw [e1]
    exact K _
  · refine x_aload_n C dX6_reckon_235 rfl rfl ?_
    refine x_get C (Cn := RX6) (T := TX6) (N := 33) (ci := 6) 4 dX6_reckon_236 m_w_6 m_f_RX6_7 rfl (by decide) rfl rfl ?_
    refine x_aload_n C dX6_reckon_239 rfl rfl ?_
    refine x_get C (Cn := RX6) (T := TX6) (N := 33) (ci := 6) 8 dX6_reckon_240 m_w_6 m_f_RX6_23 rfl (by decide) rfl rfl ?_
    refine x_iload_n C dX6_reckon_243 rfl rfl ?_
    refine x_iald C dX6_reckon_244 rfl (by omega) (by omega) ?_
    rw [Int.toNat_natCast, show ρ1 8 h = A by rw [e1, upr_n (by decide)]; exact hA]
    refine x_iload C dX6_reckon_245 rfl ?_
    refine x_iadd C dX6_reckon_247 ?_
    refine x_iload C dX6_reckon_248 rfl ?_
    refine x_aload_n C dX6_reckon_250 rfl rfl ?_
    refine x_get C (Cn := RX6) (T := TX6) (N := 33) (ci := 6) 32 dX6_reckon_251 m_w_6 m_f_RX6_200 rfl (by decide) rfl rfl ?_
    rw [show ρ1 0 32 = r by rw [e1, upr_n (by decide)]; exact hf]
    refine x_icmp_ge (tgt := 267) C dX6_reckon_254 (by decide) (by omega) (by omega) (fun c_254 => ?_) (fun c_254 => ?_)
    · have hsel : (if i < r then ρ 28 i else 0) = 0 := if_neg (by omega)
      refine x_iconst C dX6_reckon_267 ?_
      refine r_ast C dX6_reckon_268 (fun _ => rfl) (by omega) (by omega) ?_
      refine x_iinc C (lv' := [(4, _), (2, _), (0, _), (1, _)]) dX6_reckon_269 rfl (by decide) rfl ?_
      refine x_goto (tgt := 224) C dX6_reckon_272 (by decide) ?_
      rw [show (i : Int) + 1 = ((i + 1 : Nat) : Int) by omega]
      refine ih (i + 1) (by omega) (by omega) _ ?_
      rw [← pt_step, hsel, show ((A : Int) + (i : Int)).toNat = A + i by omega, e1]
    · refine x_aload_n C dX6_reckon_257 rfl rfl ?_
      refine x_get C (Cn := RX6) (T := TX6) (N := 33) (ci := 6) 28 dX6_reckon_258 m_w_6 m_f_RX6_78 rfl (by decide) rfl rfl ?_
      refine x_iload C dX6_reckon_261 rfl ?_
      refine x_iald C dX6_reckon_263 rfl (by omega) (by omega) ?_
      rw [Int.toNat_natCast, show ρ1 28 = ρ 28 by rw [e1, upr_n (by decide)]]
      have hsel : (if i < r then ρ 28 i else 0) = ρ 28 i := if_pos (by omega)
      refine x_goto (tgt := 268) C dX6_reckon_264 (by decide) ?_
      refine r_ast C dX6_reckon_268 (fun _ => rfl) (by omega) (by omega) ?_
      refine x_iinc C (lv' := [(4, _), (2, _), (0, _), (1, _)]) dX6_reckon_269 rfl (by decide) rfl ?_
      refine x_goto (tgt := 224) C dX6_reckon_272 (by decide) ?_
      rw [show (i : Int) + 1 = ((i + 1 : Nat) : Int) by omega]
      refine ih (i + 1) (by omega) (by omega) _ ?_
      rw [← pt_step, hsel, show ((A : Int) + (i : Int)).toNat = A + i by omega, e1]
