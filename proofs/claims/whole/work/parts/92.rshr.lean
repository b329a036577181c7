/-! THE REFERENCE'S DIVIDE: back to the right -/
theorem iI_ro {a b : Int} (k : Nat) (hk : k < 31) {c : Int} (ha : a = c * 2 ^ k) (hc : 0 ≤ c) (hb : 0 ≤ b ∧ b < 2 ^ k) (h : a + b < 2147483648) : iI b ||| iI a = iI (b + a) := by rw [Int32.or_comm, Int.add_comm]; exact iI_or k hk ha hc hb h
theorem iI_o0 (x : Int) : iI x ||| iI 0 = iI x := Int32.or_zero
def sr (f : Nat → Int) (s : Nat) : Nat → Int := fun i => f i / 2 ^ s + f (i + 1) % 2 ^ s * 2 ^ (31 - s)
theorem dms (x : Int) (s : Nat) : x / 2 ^ s * 2 ^ s + x % 2 ^ s = x := by have := Int.mul_ediv_add_emod x (2 ^ s); rw [Int.mul_comm] at this; exact this
theorem ems (x : Int) (s : Nat) : 0 ≤ x % 2 ^ s ∧ x % 2 ^ s < 2 ^ s := ⟨Int.emod_nonneg x (by have := zp_pos s; omega), Int.emod_lt_of_pos x (zp_pos s)⟩
theorem sr_nv {f : Nat → Int} {s : Nat} (hs : s ≤ 31) : ∀ n : Nat, nv (sr f s) 0 n * 2 ^ s = nv f 0 n - f 0 % 2 ^ s + f n % 2 ^ s * 2147483648 ^ n
  | 0 => by simp [nv_0]; omega
  | n + 1 => by
    have ih := sr_nv hs (f := f) n
    rw [nv_s, nv_s, Nat.zero_add, Int.add_mul, ih, bp_s]
    have e1 : sr f s n * 2147483648 ^ n * 2 ^ s = (f n / 2 ^ s * 2 ^ s + f (n + 1) % 2 ^ s * (2 ^ (31 - s) * 2 ^ s)) * 2147483648 ^ n := by
      unfold sr
      rw [Int.mul_assoc, Int.mul_comm (2147483648 ^ n) (2 ^ s), ← Int.mul_assoc, Int.add_mul, Int.mul_assoc (f (n + 1) % 2 ^ s)]
    have e2 := congrArg (fun z => z * (2147483648 : Int) ^ n) (dms (f n) s)
    simp only [Int.add_mul] at e2
    rw [e1, p31 hs, Int.add_mul, Int.mul_comm (2147483648 ^ n) 2147483648, ← Int.mul_assoc]
    omega
theorem sr_in {f : Nat → Int} {s i : Nat} (hs : s ≤ 31) (h0 : 0 ≤ f i ∧ f i < 2147483648) : 0 ≤ f i / 2 ^ s ∧ f i / 2 ^ s < 2 ^ (31 - s) ∧ 0 ≤ f (i + 1) % 2 ^ s * 2 ^ (31 - s) ∧ f (i + 1) % 2 ^ s * 2 ^ (31 - s) + 2 ^ (31 - s) ≤ 2147483648 := by
  have hp := p31 hs
  have h1 := ems (f (i + 1)) s
  have z1 := zp_pos (31 - s)
  have z2 := zp_pos s
  refine ⟨Int.ediv_nonneg h0.1 (by omega), Int.ediv_lt_of_lt_mul z2 (by omega), Int.mul_nonneg h1.1 (by omega), ?_⟩
  have h2 := Int.mul_le_mul_of_nonneg_right (show f (i + 1) % 2 ^ s + 1 ≤ 2 ^ s by omega) (show (0 : Int) ≤ 2 ^ (31 - s) by omega)
  rw [Int.add_mul, Int.one_mul, Int.mul_comm (2 ^ s)] at h2
  omega
/-- a number that was shifted comes back -/
theorem sr_back {f : Nat → Int} {s n : Nat} {x : Int} (hs : s ≤ 31) (hn : f n = 0) (hx : nv f 0 n = x * 2 ^ s) : nv (sr f s) 0 n = x := by
  have h := sr_nv hs (f := f) n
  rw [hn, Int.zero_emod, Int.zero_mul, Int.add_zero, hx] at h
  have h1 := ems (f 0) s
  have h2 : (x - nv (sr f s) 0 n) * 2 ^ s = f 0 % 2 ^ s := by rw [Int.sub_mul]; omega
  have hz := zp_pos s
  rcases Int.lt_trichotomy (x - nv (sr f s) 0 n) 0 with c | c | c
  · have := Int.mul_le_mul_of_nonneg_right (show x - nv (sr f s) 0 n ≤ -1 by omega) (show (0 : Int) ≤ 2 ^ s by omega); omega
  · omega
  · have := Int.mul_le_mul_of_nonneg_right (show 1 ≤ x - nv (sr f s) 0 n by omega) (show (0 : Int) ≤ 2 ^ s by omega); omega
theorem sl_mod2 {x : Int} {s : Nat} (hs : s ≤ 31) (hx : 0 ≤ x ∧ x < 2147483648) : x * 2 ^ (31 - s) % 2147483648 = x % 2 ^ s * 2 ^ (31 - s) := by
  have := sl_mod (s := 31 - s) (by omega) hx
  rwa [show 31 - (31 - s) = s by omega] at this
theorem sr_0 {f : Nat → Int} {s i n : Nat} (h : s = 0 ∨ n ≤ i + 1) (hi : i < n) (hn : f n = 0) : sr f s i = f i / 2 ^ s := by
  unfold sr
  rcases h with rfl | h
  · rw [Int.pow_zero, Int.emod_one, Int.zero_mul, Int.add_zero]
  · rw [show i + 1 = n by omega, hn, Int.zero_emod, Int.zero_mul, Int.add_zero]
set_option maxHeartbeats 4000000 in
set_option maxRecDepth 100000 in
theorem rp_shr {p : Program} {l : Launch} {e : Env} {R : Room} {s : State} {m : MethodId} {args : Array Value} {below : List Frame} {meth : Method} {c : Code} {D : va_G} {ad : Nat → Nat} {Q : State → Prop} (C : Fx p s m args meth c D ad cX6_divide 5 none yX6_divide.cls tb) (ρ : St) (nn s0 : Nat) (hs : s0 ≤ 30) (hnn : nn ≤ 2100) (fu fv : Nat → Int) (hfun : fu nn = 0) (hfvn : fv nn = 0) (hfu : ∀ i, i < nn → 0 ≤ fu i ∧ fu i < 2147483648) (hfv : ∀ i, i < nn → 0 ≤ fv i ∧ fv i < 2147483648) (K : ∀ (ρ1 : St) (i3 : Int), (∀ q, q < nn → ρ1 24 q = sr fu s0 q) → (∀ q, q < nn → ρ1 25 q = sr fv s0 q) → (∀ q, nn ≤ q → ρ1 24 q = ρ 24 q) → (∀ q, nn ≤ q → ρ1 25 q = ρ 25 q) → (∀ q, q ≠ 24 → q ≠ 25 → ρ1 q = ρ q) → X p l e R s m args below meth c D ad 5 Q (rc D ad ρ1) 322 [(3, vi i3), (2, vi (nn : Int)), (1, vi (s0 : Int)), (0, .ref (ad 0))] []) (n i : Nat) (hn : nn - i < n) (hi : i ≤ nn) (ρ1 : St) (h1 : ∀ q, i ≤ q → q < nn → ρ1 24 q = fu q) (h2 : ∀ q, i ≤ q → q < nn → ρ1 25 q = fv q) (h4 : ∀ q, q < i → ρ1 24 q = sr fu s0 q) (h5 : ∀ q, q < i → ρ1 25 q = sr fv s0 q) (h6 : ∀ q, nn ≤ q → ρ1 24 q = ρ 24 q) (h7 : ∀ q, nn ≤ q → ρ1 25 q = ρ 25 q) (h3 : ∀ q, q ≠ 24 → q ≠ 25 → ρ1 q = ρ q) : X p l e R s m args below meth c D ad 5 Q (rc D ad ρ1) 201 [(3, vi (i : Int)), (2, vi (nn : Int)), (1, vi (s0 : Int)), (0, .ref (ad 0))] [] := by
  induction n generalizing i ρ1 with
  | zero => omega
  | succ n ih =>
  refine x_iload_n C dX6_divide_201 rfl rfl ?_
  refine x_iload_n C dX6_divide_202 rfl rfl ?_
  refine x_icmp_ge (tgt := 322) C dX6_divide_203 (by decide) (by omega) (by omega) (fun c_203 => ?_) (fun c_203 => ?_)
  · obtain rfl : i = nn := by omega
    exact K ρ1 _ h4 h5 h6 h7 h3
  · have q1 := sr_in (s := s0) (by omega) (hfu i (by omega))
    have q2 := sr_in (s := s0) (by omega) (hfv i (by omega))
    have hfui := hfu i (by omega)
    have hfvi := hfv i (by omega)
    refine x_iload_n C dX6_divide_206 rfl rfl ?_
    refine x_iconst C dX6_divide_207 ?_
    refine x_iadd C dX6_divide_208 ?_
    refine x_iload_n C dX6_divide_209 rfl rfl ?_
    refine x_icmp_ge (tgt := 219) C dX6_divide_210 (by decide) (by omega) (by omega) (fun c_210 => ?_) (fun c_210 => ?_)
    · refine x_iconst C dX6_divide_219 ?_
      refine x_istore C (lv' := [(4, _), (3, _), (2, _), (1, _), (0, _)]) dX6_divide_220 (by decide) rfl ?_
      refine x_aload_n C dX6_divide_222 rfl rfl ?_
      refine x_get C (Cn := RX6) (T := TX6) (N := 33) (ci := 6) 24 dX6_divide_223 m_w_6 m_f_RX6_66 rfl (by decide) rfl rfl ?_
      refine x_iload_n C dX6_divide_226 rfl rfl ?_
      refine x_aload_n C dX6_divide_227 rfl rfl ?_
      refine x_get C (Cn := RX6) (T := TX6) (N := 33) (ci := 6) 24 dX6_divide_228 m_w_6 m_f_RX6_66 rfl (by decide) rfl rfl ?_
      refine x_iload_n C dX6_divide_231 rfl rfl ?_
      refine x_iald C dX6_divide_232 rfl (by omega) (by omega) ?_
      rw [Int.toNat_natCast, h1 i (Nat.le_refl i) (by omega)]
      refine x_iload_n C dX6_divide_233 rfl rfl ?_
      refine x_ishr C dX6_divide_234 (by omega) (by omega) ?_
      rw [Int.toNat_natCast]
      refine x_iload_n C dX6_divide_235 rfl rfl ?_
      refine x_if_eq (tgt := 244) C dX6_divide_236 (by decide) (by omega) (fun c_236 => ?_) (fun c_236 => ?_)
      · have hor1 : iI (fu i / 2 ^ s0) ||| iI 0 = iI (sr fu s0 i) := by rw [iI_o0, sr_0 (n := nn) (by omega) (by omega) hfun]
        refine x_iconst C dX6_divide_244 ?_
        refine x_goto (tgt := 267) C dX6_divide_245 (by decide) ?_
        refine x_ior C (z := _) dX6_divide_267 hor1 ?_
        refine r_ast C dX6_divide_268 (fun _ => rfl) (by omega) (by omega) ?_
        refine x_aload_n C dX6_divide_269 rfl rfl ?_
        refine x_get C (Cn := RX6) (T := TX6) (N := 33) (ci := 6) 25 dX6_divide_270 m_w_6 m_f_RX6_69 rfl (by decide) rfl rfl ?_
        refine x_iload_n C dX6_divide_273 rfl rfl ?_
        refine x_aload_n C dX6_divide_274 rfl rfl ?_
        refine x_get C (Cn := RX6) (T := TX6) (N := 33) (ci := 6) 25 dX6_divide_275 m_w_6 m_f_RX6_69 rfl (by decide) rfl rfl ?_
        refine x_iload_n C dX6_divide_278 rfl rfl ?_
        refine x_iald C dX6_divide_279 rfl (by omega) (by omega) ?_
        rw [Int.toNat_natCast, up_n (show 25 ≠ 24 by decide), h2 i (Nat.le_refl i) (by omega)]
        refine x_iload_n C dX6_divide_280 rfl rfl ?_
        refine x_ishr C dX6_divide_281 (by omega) (by omega) ?_
        rw [Int.toNat_natCast]
        refine x_iload_n C dX6_divide_282 rfl rfl ?_
        refine x_if_eq (tgt := 291) C dX6_divide_283 (by decide) (by omega) (fun c_283 => ?_) (fun c_283 => ?_)
        · have hor2 : iI (fv i / 2 ^ s0) ||| iI 0 = iI (sr fv s0 i) := by rw [iI_o0, sr_0 (n := nn) (by omega) (by omega) hfvn]
          refine x_iconst C dX6_divide_291 ?_
          refine x_goto (tgt := 314) C dX6_divide_292 (by decide) ?_
          refine x_ior C (z := _) dX6_divide_314 hor2 ?_
          refine r_ast C dX6_divide_315 (fun _ => rfl) (by omega) (by omega) ?_
          refine x_iinc C (lv' := [(3, _), (4, _), (2, _), (1, _), (0, _)]) dX6_divide_316 rfl (by decide) rfl ?_
          refine x_goto (tgt := 201) C dX6_divide_319 (by decide) ?_
          refine X.sub [0, 2, 3, 4] rfl ?_
          rw [show (i : Int) + 1 = ((i + 1 : Nat) : Int) by omega]
          simp only [Int.toNat_natCast]
          refine ih (i + 1) (by omega) (by omega) _ ?_ ?_ ?_ ?_ ?_ ?_ (fun q q1 q2 => by rw [up_n q2, up_n q1]; exact h3 q q1 q2)
          · intro q q1 q2; rw [up_n (by decide), up_s, zup_n (by omega)]; exact h1 q (by omega) q2
          · intro q q1 q2; rw [up_s, zup_n (by omega), up_n (by decide)]; exact h2 q (by omega) q2
          · intro q hq
            rw [up_n (by decide), up_s]
            by_cases c : q = i
            · rw [c, zup_s]
            · rw [zup_n c]; exact h4 q (by omega)
          · intro q hq
            rw [up_s, up_n (by decide)]
            by_cases c : q = i
            · rw [c, zup_s]
            · rw [zup_n c]; exact h5 q (by omega)
          · intro q hq; rw [up_n (by decide), up_s, zup_n (by omega)]; exact h6 q hq
          · intro q hq; rw [up_s, zup_n (by omega), up_n (by decide)]; exact h7 q hq
        · refine x_iload C dX6_divide_286 rfl ?_
          refine x_if_ge (tgt := 295) C dX6_divide_288 (by decide) (by omega) (fun c_288 => ?_) (fun c_288 => ?_)
          · have hin2 : i + 1 < nn := by omega
            have hf22 := hfv (i + 1) (by omega)
            have hs02 : 1 ≤ s0 := by omega
            refine x_aload_n C dX6_divide_295 rfl rfl ?_
            refine x_get C (Cn := RX6) (T := TX6) (N := 33) (ci := 6) 25 dX6_divide_296 m_w_6 m_f_RX6_69 rfl (by decide) rfl rfl ?_
            refine x_iload_n C dX6_divide_299 rfl rfl ?_
            refine x_iconst C dX6_divide_300 ?_
            refine x_iadd C dX6_divide_301 ?_
            refine x_iald C dX6_divide_302 rfl (by omega) (by omega) ?_
            rw [show ((i : Int) + 1).toNat = i + 1 by omega, up_n (show 25 ≠ 24 by decide), h2 (i + 1) (by omega) (by omega)]
            refine x_i2l C dX6_divide_303 (by omega) ?_
            refine x_bipush C (z := 31) dX6_divide_304 (by decide) ?_
            refine x_iload_n C dX6_divide_306 rfl rfl ?_
            refine x_isub C dX6_divide_307 ?_
            refine x_lshl C dX6_divide_308 (by omega) ?_
            rw [show ((31 : Int) - (s0 : Int)).toNat = 31 - s0 by omega]
            refine x_ldc2 C (z := 2147483647) dX6_divide_309 (C.2.2.2.2.1 _ m_k_RX6_189) (by decide) ?_
            refine x_land C (z := _) dX6_divide_312 (lI_mask _) ?_
            rw [sl_mod2 (by omega) hf22]
            have hor2 : iI (fv i / 2 ^ s0) ||| iI (fv (i + 1) % 2 ^ s0 * 2 ^ (31 - s0)) = iI (sr fv s0 i) := iI_ro (31 - s0) (by omega) rfl (ems _ _).1 ⟨q2.1, q2.2.1⟩ (by omega)
            refine x_l2i C dX6_divide_313 ?_
            refine x_ior C (z := _) dX6_divide_314 hor2 ?_
            refine r_ast C dX6_divide_315 (fun _ => rfl) (by omega) (by omega) ?_
            refine x_iinc C (lv' := [(3, _), (4, _), (2, _), (1, _), (0, _)]) dX6_divide_316 rfl (by decide) rfl ?_
            refine x_goto (tgt := 201) C dX6_divide_319 (by decide) ?_
            refine X.sub [0, 2, 3, 4] rfl ?_
            rw [show (i : Int) + 1 = ((i + 1 : Nat) : Int) by omega]
            simp only [Int.toNat_natCast]
            refine ih (i + 1) (by omega) (by omega) _ ?_ ?_ ?_ ?_ ?_ ?_ (fun q q1 q2 => by rw [up_n q2, up_n q1]; exact h3 q q1 q2)
            · intro q q1 q2; rw [up_n (by decide), up_s, zup_n (by omega)]; exact h1 q (by omega) q2
            · intro q q1 q2; rw [up_s, zup_n (by omega), up_n (by decide)]; exact h2 q (by omega) q2
            · intro q hq
              rw [up_n (by decide), up_s]
              by_cases c : q = i
              · rw [c, zup_s]
              · rw [zup_n c]; exact h4 q (by omega)
            · intro q hq
              rw [up_s, up_n (by decide)]
              by_cases c : q = i
              · rw [c, zup_s]
              · rw [zup_n c]; exact h5 q (by omega)
            · intro q hq; rw [up_n (by decide), up_s, zup_n (by omega)]; exact h6 q hq
            · intro q hq; rw [up_s, zup_n (by omega), up_n (by decide)]; exact h7 q hq
          · have hor2 : iI (fv i / 2 ^ s0) ||| iI 0 = iI (sr fv s0 i) := by rw [iI_o0, sr_0 (n := nn) (by omega) (by omega) hfvn]
            refine x_iconst C dX6_divide_291 ?_
            refine x_goto (tgt := 314) C dX6_divide_292 (by decide) ?_
            refine x_ior C (z := _) dX6_divide_314 hor2 ?_
            refine r_ast C dX6_divide_315 (fun _ => rfl) (by omega) (by omega) ?_
            refine x_iinc C (lv' := [(3, _), (4, _), (2, _), (1, _), (0, _)]) dX6_divide_316 rfl (by decide) rfl ?_
            refine x_goto (tgt := 201) C dX6_divide_319 (by decide) ?_
            refine X.sub [0, 2, 3, 4] rfl ?_
            rw [show (i : Int) + 1 = ((i + 1 : Nat) : Int) by omega]
            simp only [Int.toNat_natCast]
            refine ih (i + 1) (by omega) (by omega) _ ?_ ?_ ?_ ?_ ?_ ?_ (fun q q1 q2 => by rw [up_n q2, up_n q1]; exact h3 q q1 q2)
            · intro q q1 q2; rw [up_n (by decide), up_s, zup_n (by omega)]; exact h1 q (by omega) q2
            · intro q q1 q2; rw [up_s, zup_n (by omega), up_n (by decide)]; exact h2 q (by omega) q2
            · intro q hq
              rw [up_n (by decide), up_s]
              by_cases c : q = i
              · rw [c, zup_s]
              · rw [zup_n c]; exact h4 q (by omega)
            · intro q hq
              rw [up_s, up_n (by decide)]
              by_cases c : q = i
              · rw [c, zup_s]
              · rw [zup_n c]; exact h5 q (by omega)
            · intro q hq; rw [up_n (by decide), up_s, zup_n (by omega)]; exact h6 q hq
            · intro q hq; rw [up_s, zup_n (by omega), up_n (by decide)]; exact h7 q hq
      · refine x_iload C dX6_divide_239 rfl ?_
        refine x_if_ge (tgt := 248) C dX6_divide_241 (by decide) (by omega) (fun c_241 => ?_) (fun c_241 => ?_)
        · have hin1 : i + 1 < nn := by omega
          have hf21 := hfu (i + 1) (by omega)
          have hs01 : 1 ≤ s0 := by omega
          refine x_aload_n C dX6_divide_248 rfl rfl ?_
          refine x_get C (Cn := RX6) (T := TX6) (N := 33) (ci := 6) 24 dX6_divide_249 m_w_6 m_f_RX6_66 rfl (by decide) rfl rfl ?_
          refine x_iload_n C dX6_divide_252 rfl rfl ?_
          refine x_iconst C dX6_divide_253 ?_
          refine x_iadd C dX6_divide_254 ?_
          refine x_iald C dX6_divide_255 rfl (by omega) (by omega) ?_
          rw [show ((i : Int) + 1).toNat = i + 1 by omega, h1 (i + 1) (by omega) (by omega)]
          refine x_i2l C dX6_divide_256 (by omega) ?_
          refine x_bipush C (z := 31) dX6_divide_257 (by decide) ?_
          refine x_iload_n C dX6_divide_259 rfl rfl ?_
          refine x_isub C dX6_divide_260 ?_
          refine x_lshl C dX6_divide_261 (by omega) ?_
          rw [show ((31 : Int) - (s0 : Int)).toNat = 31 - s0 by omega]
          refine x_ldc2 C (z := 2147483647) dX6_divide_262 (C.2.2.2.2.1 _ m_k_RX6_189) (by decide) ?_
          refine x_land C (z := _) dX6_divide_265 (lI_mask _) ?_
          rw [sl_mod2 (by omega) hf21]
          have hor1 : iI (fu i / 2 ^ s0) ||| iI (fu (i + 1) % 2 ^ s0 * 2 ^ (31 - s0)) = iI (sr fu s0 i) := iI_ro (31 - s0) (by omega) rfl (ems _ _).1 ⟨q1.1, q1.2.1⟩ (by omega)
          refine x_l2i C dX6_divide_266 ?_
          refine x_ior C (z := _) dX6_divide_267 hor1 ?_
          refine r_ast C dX6_divide_268 (fun _ => rfl) (by omega) (by omega) ?_
          refine x_aload_n C dX6_divide_269 rfl rfl ?_
          refine x_get C (Cn := RX6) (T := TX6) (N := 33) (ci := 6) 25 dX6_divide_270 m_w_6 m_f_RX6_69 rfl (by decide) rfl rfl ?_
          refine x_iload_n C dX6_divide_273 rfl rfl ?_
          refine x_aload_n C dX6_divide_274 rfl rfl ?_
          refine x_get C (Cn := RX6) (T := TX6) (N := 33) (ci := 6) 25 dX6_divide_275 m_w_6 m_f_RX6_69 rfl (by decide) rfl rfl ?_
          refine x_iload_n C dX6_divide_278 rfl rfl ?_
          refine x_iald C dX6_divide_279 rfl (by omega) (by omega) ?_
          rw [Int.toNat_natCast, up_n (show 25 ≠ 24 by decide), h2 i (Nat.le_refl i) (by omega)]
          refine x_iload_n C dX6_divide_280 rfl rfl ?_
          refine x_ishr C dX6_divide_281 (by omega) (by omega) ?_
          rw [Int.toNat_natCast]
          refine x_iload_n C dX6_divide_282 rfl rfl ?_
          refine x_if_eq (tgt := 291) C dX6_divide_283 (by decide) (by omega) (fun c_283 => ?_) (fun c_283 => ?_)
          · have hor2 : iI (fv i / 2 ^ s0) ||| iI 0 = iI (sr fv s0 i) := by rw [iI_o0, sr_0 (n := nn) (by omega) (by omega) hfvn]
            refine x_iconst C dX6_divide_291 ?_
            refine x_goto (tgt := 314) C dX6_divide_292 (by decide) ?_
            refine x_ior C (z := _) dX6_divide_314 hor2 ?_
            refine r_ast C dX6_divide_315 (fun _ => rfl) (by omega) (by omega) ?_
            refine x_iinc C (lv' := [(3, _), (4, _), (2, _), (1, _), (0, _)]) dX6_divide_316 rfl (by decide) rfl ?_
            refine x_goto (tgt := 201) C dX6_divide_319 (by decide) ?_
            refine X.sub [0, 2, 3, 4] rfl ?_
            rw [show (i : Int) + 1 = ((i + 1 : Nat) : Int) by omega]
            simp only [Int.toNat_natCast]
            refine ih (i + 1) (by omega) (by omega) _ ?_ ?_ ?_ ?_ ?_ ?_ (fun q q1 q2 => by rw [up_n q2, up_n q1]; exact h3 q q1 q2)
            · intro q q1 q2; rw [up_n (by decide), up_s, zup_n (by omega)]; exact h1 q (by omega) q2
            · intro q q1 q2; rw [up_s, zup_n (by omega), up_n (by decide)]; exact h2 q (by omega) q2
            · intro q hq
              rw [up_n (by decide), up_s]
              by_cases c : q = i
              · rw [c, zup_s]
              · rw [zup_n c]; exact h4 q (by omega)
            · intro q hq
              rw [up_s, up_n (by decide)]
              by_cases c : q = i
              · rw [c, zup_s]
              · rw [zup_n c]; exact h5 q (by omega)
            · intro q hq; rw [up_n (by decide), up_s, zup_n (by omega)]; exact h6 q hq
            · intro q hq; rw [up_s, zup_n (by omega), up_n (by decide)]; exact h7 q hq
          · refine x_iload C dX6_divide_286 rfl ?_
            refine x_if_ge (tgt := 295) C dX6_divide_288 (by decide) (by omega) (fun c_288 => ?_) (fun c_288 => ?_)
            · have hin2 : i + 1 < nn := by omega
              have hf22 := hfv (i + 1) (by omega)
              have hs02 : 1 ≤ s0 := by omega
              refine x_aload_n C dX6_divide_295 rfl rfl ?_
              refine x_get C (Cn := RX6) (T := TX6) (N := 33) (ci := 6) 25 dX6_divide_296 m_w_6 m_f_RX6_69 rfl (by decide) rfl rfl ?_
              refine x_iload_n C dX6_divide_299 rfl rfl ?_
              refine x_iconst C dX6_divide_300 ?_
              refine x_iadd C dX6_divide_301 ?_
              refine x_iald C dX6_divide_302 rfl (by omega) (by omega) ?_
              rw [show ((i : Int) + 1).toNat = i + 1 by omega, up_n (show 25 ≠ 24 by decide), h2 (i + 1) (by omega) (by omega)]
              refine x_i2l C dX6_divide_303 (by omega) ?_
              refine x_bipush C (z := 31) dX6_divide_304 (by decide) ?_
              refine x_iload_n C dX6_divide_306 rfl rfl ?_
              refine x_isub C dX6_divide_307 ?_
              refine x_lshl C dX6_divide_308 (by omega) ?_
              rw [show ((31 : Int) - (s0 : Int)).toNat = 31 - s0 by omega]
              refine x_ldc2 C (z := 2147483647) dX6_divide_309 (C.2.2.2.2.1 _ m_k_RX6_189) (by decide) ?_
              refine x_land C (z := _) dX6_divide_312 (lI_mask _) ?_
              rw [sl_mod2 (by omega) hf22]
              have hor2 : iI (fv i / 2 ^ s0) ||| iI (fv (i + 1) % 2 ^ s0 * 2 ^ (31 - s0)) = iI (sr fv s0 i) := iI_ro (31 - s0) (by omega) rfl (ems _ _).1 ⟨q2.1, q2.2.1⟩ (by omega)
              refine x_l2i C dX6_divide_313 ?_
              refine x_ior C (z := _) dX6_divide_314 hor2 ?_
              refine r_ast C dX6_divide_315 (fun _ => rfl) (by omega) (by omega) ?_
              refine x_iinc C (lv' := [(3, _), (4, _), (2, _), (1, _), (0, _)]) dX6_divide_316 rfl (by decide) rfl ?_
              refine x_goto (tgt := 201) C dX6_divide_319 (by decide) ?_
              refine X.sub [0, 2, 3, 4] rfl ?_
              rw [show (i : Int) + 1 = ((i + 1 : Nat) : Int) by omega]
              simp only [Int.toNat_natCast]
              refine ih (i + 1) (by omega) (by omega) _ ?_ ?_ ?_ ?_ ?_ ?_ (fun q q1 q2 => by rw [up_n q2, up_n q1]; exact h3 q q1 q2)
              · intro q q1 q2; rw [up_n (by decide), up_s, zup_n (by omega)]; exact h1 q (by omega) q2
              · intro q q1 q2; rw [up_s, zup_n (by omega), up_n (by decide)]; exact h2 q (by omega) q2
              · intro q hq
                rw [up_n (by decide), up_s]
                by_cases c : q = i
                · rw [c, zup_s]
                · rw [zup_n c]; exact h4 q (by omega)
              · intro q hq
                rw [up_s, up_n (by decide)]
                by_cases c : q = i
                · rw [c, zup_s]
                · rw [zup_n c]; exact h5 q (by omega)
              · intro q hq; rw [up_n (by decide), up_s, zup_n (by omega)]; exact h6 q hq
              · intro q hq; rw [up_s, zup_n (by omega), up_n (by decide)]; exact h7 q hq
            · have hor2 : iI (fv i / 2 ^ s0) ||| iI 0 = iI (sr fv s0 i) := by rw [iI_o0, sr_0 (n := nn) (by omega) (by omega) hfvn]
              refine x_iconst C dX6_divide_291 ?_
              refine x_goto (tgt := 314) C dX6_divide_292 (by decide) ?_
              refine x_ior C (z := _) dX6_divide_314 hor2 ?_
              refine r_ast C dX6_divide_315 (fun _ => rfl) (by omega) (by omega) ?_
              refine x_iinc C (lv' := [(3, _), (4, _), (2, _), (1, _), (0, _)]) dX6_divide_316 rfl (by decide) rfl ?_
              refine x_goto (tgt := 201) C dX6_divide_319 (by decide) ?_
              refine X.sub [0, 2, 3, 4] rfl ?_
              rw [show (i : Int) + 1 = ((i + 1 : Nat) : Int) by omega]
              simp only [Int.toNat_natCast]
              refine ih (i + 1) (by omega) (by omega) _ ?_ ?_ ?_ ?_ ?_ ?_ (fun q q1 q2 => by rw [up_n q2, up_n q1]; exact h3 q q1 q2)
              · intro q q1 q2; rw [up_n (by decide), up_s, zup_n (by omega)]; exact h1 q (by omega) q2
              · intro q q1 q2; rw [up_s, zup_n (by omega), up_n (by decide)]; exact h2 q (by omega) q2
              · intro q hq
                rw [up_n (by decide), up_s]
                by_cases c : q = i
                · rw [c, zup_s]
                · rw [zup_n c]; exact h4 q (by omega)
              · intro q hq
                rw [up_s, up_n (by decide)]
                by_cases c : q = i
                · rw [c, zup_s]
                · rw [zup_n c]; exact h5 q (by omega)
              · intro q hq; rw [up_n (by decide), up_s, zup_n (by omega)]; exact h6 q hq
              · intro q hq; rw [up_s, zup_n (by omega), up_n (by decide)]; exact h7 q hq
        · have hor1 : iI (fu i / 2 ^ s0) ||| iI 0 = iI (sr fu s0 i) := by rw [iI_o0, sr_0 (n := nn) (by omega) (by omega) hfun]
          refine x_iconst C dX6_divide_244 ?_
          refine x_goto (tgt := 267) C dX6_divide_245 (by decide) ?_
          refine x_ior C (z := _) dX6_divide_267 hor1 ?_
          refine r_ast C dX6_divide_268 (fun _ => rfl) (by omega) (by omega) ?_
          refine x_aload_n C dX6_divide_269 rfl rfl ?_
          refine x_get C (Cn := RX6) (T := TX6) (N := 33) (ci := 6) 25 dX6_divide_270 m_w_6 m_f_RX6_69 rfl (by decide) rfl rfl ?_
          refine x_iload_n C dX6_divide_273 rfl rfl ?_
          refine x_aload_n C dX6_divide_274 rfl rfl ?_
          refine x_get C (Cn := RX6) (T := TX6) (N := 33) (ci := 6) 25 dX6_divide_275 m_w_6 m_f_RX6_69 rfl (by decide) rfl rfl ?_
          refine x_iload_n C dX6_divide_278 rfl rfl ?_
          refine x_iald C dX6_divide_279 rfl (by omega) (by omega) ?_
          rw [Int.toNat_natCast, up_n (show 25 ≠ 24 by decide), h2 i (Nat.le_refl i) (by omega)]
          refine x_iload_n C dX6_divide_280 rfl rfl ?_
          refine x_ishr C dX6_divide_281 (by omega) (by omega) ?_
          rw [Int.toNat_natCast]
          refine x_iload_n C dX6_divide_282 rfl rfl ?_
          refine x_if_eq (tgt := 291) C dX6_divide_283 (by decide) (by omega) (fun c_283 => ?_) (fun c_283 => ?_)
          · have hor2 : iI (fv i / 2 ^ s0) ||| iI 0 = iI (sr fv s0 i) := by rw [iI_o0, sr_0 (n := nn) (by omega) (by omega) hfvn]
            refine x_iconst C dX6_divide_291 ?_
            refine x_goto (tgt := 314) C dX6_divide_292 (by decide) ?_
            refine x_ior C (z := _) dX6_divide_314 hor2 ?_
            refine r_ast C dX6_divide_315 (fun _ => rfl) (by omega) (by omega) ?_
            refine x_iinc C (lv' := [(3, _), (4, _), (2, _), (1, _), (0, _)]) dX6_divide_316 rfl (by decide) rfl ?_
            refine x_goto (tgt := 201) C dX6_divide_319 (by decide) ?_
            refine X.sub [0, 2, 3, 4] rfl ?_
            rw [show (i : Int) + 1 = ((i + 1 : Nat) : Int) by omega]
            simp only [Int.toNat_natCast]
            refine ih (i + 1) (by omega) (by omega) _ ?_ ?_ ?_ ?_ ?_ ?_ (fun q q1 q2 => by rw [up_n q2, up_n q1]; exact h3 q q1 q2)
            · intro q q1 q2; rw [up_n (by decide), up_s, zup_n (by omega)]; exact h1 q (by omega) q2
            · intro q q1 q2; rw [up_s, zup_n (by omega), up_n (by decide)]; exact h2 q (by omega) q2
            · intro q hq
              rw [up_n (by decide), up_s]
              by_cases c : q = i
              · rw [c, zup_s]
              · rw [zup_n c]; exact h4 q (by omega)
            · intro q hq
              rw [up_s, up_n (by decide)]
              by_cases c : q = i
              · rw [c, zup_s]
              · rw [zup_n c]; exact h5 q (by omega)
            · intro q hq; rw [up_n (by decide), up_s, zup_n (by omega)]; exact h6 q hq
            · intro q hq; rw [up_s, zup_n (by omega), up_n (by decide)]; exact h7 q hq
          · refine x_iload C dX6_divide_286 rfl ?_
            refine x_if_ge (tgt := 295) C dX6_divide_288 (by decide) (by omega) (fun c_288 => ?_) (fun c_288 => ?_)
            · have hin2 : i + 1 < nn := by omega
              have hf22 := hfv (i + 1) (by omega)
              have hs02 : 1 ≤ s0 := by omega
              refine x_aload_n C dX6_divide_295 rfl rfl ?_
              refine x_get C (Cn := RX6) (T := TX6) (N := 33) (ci := 6) 25 dX6_divide_296 m_w_6 m_f_RX6_69 rfl (by decide) rfl rfl ?_
              refine x_iload_n C dX6_divide_299 rfl rfl ?_
              refine x_iconst C dX6_divide_300 ?_
              refine x_iadd C dX6_divide_301 ?_
              refine x_iald C dX6_divide_302 rfl (by omega) (by omega) ?_
              rw [show ((i : Int) + 1).toNat = i + 1 by omega, up_n (show 25 ≠ 24 by decide), h2 (i + 1) (by omega) (by omega)]
              refine x_i2l C dX6_divide_303 (by omega) ?_
              refine x_bipush C (z := 31) dX6_divide_304 (by decide) ?_
              refine x_iload_n C dX6_divide_306 rfl rfl ?_
              refine x_isub C dX6_divide_307 ?_
              refine x_lshl C dX6_divide_308 (by omega) ?_
              rw [show ((31 : Int) - (s0 : Int)).toNat = 31 - s0 by omega]
              refine x_ldc2 C (z := 2147483647) dX6_divide_309 (C.2.2.2.2.1 _ m_k_RX6_189) (by decide) ?_
              refine x_land C (z := _) dX6_divide_312 (lI_mask _) ?_
              rw [sl_mod2 (by omega) hf22]
              have hor2 : iI (fv i / 2 ^ s0) ||| iI (fv (i + 1) % 2 ^ s0 * 2 ^ (31 - s0)) = iI (sr fv s0 i) := iI_ro (31 - s0) (by omega) rfl (ems _ _).1 ⟨q2.1, q2.2.1⟩ (by omega)
              refine x_l2i C dX6_divide_313 ?_
              refine x_ior C (z := _) dX6_divide_314 hor2 ?_
              refine r_ast C dX6_divide_315 (fun _ => rfl) (by omega) (by omega) ?_
              refine x_iinc C (lv' := [(3, _), (4, _), (2, _), (1, _), (0, _)]) dX6_divide_316 rfl (by decide) rfl ?_
              refine x_goto (tgt := 201) C dX6_divide_319 (by decide) ?_
              refine X.sub [0, 2, 3, 4] rfl ?_
              rw [show (i : Int) + 1 = ((i + 1 : Nat) : Int) by omega]
              simp only [Int.toNat_natCast]
              refine ih (i + 1) (by omega) (by omega) _ ?_ ?_ ?_ ?_ ?_ ?_ (fun q q1 q2 => by rw [up_n q2, up_n q1]; exact h3 q q1 q2)
              · intro q q1 q2; rw [up_n (by decide), up_s, zup_n (by omega)]; exact h1 q (by omega) q2
              · intro q q1 q2; rw [up_s, zup_n (by omega), up_n (by decide)]; exact h2 q (by omega) q2
              · intro q hq
                rw [up_n (by decide), up_s]
                by_cases c : q = i
                · rw [c, zup_s]
                · rw [zup_n c]; exact h4 q (by omega)
              · intro q hq
                rw [up_s, up_n (by decide)]
                by_cases c : q = i
                · rw [c, zup_s]
                · rw [zup_n c]; exact h5 q (by omega)
              · intro q hq; rw [up_n (by decide), up_s, zup_n (by omega)]; exact h6 q hq
              · intro q hq; rw [up_s, zup_n (by omega), up_n (by decide)]; exact h7 q hq
            · have hor2 : iI (fv i / 2 ^ s0) ||| iI 0 = iI (sr fv s0 i) := by rw [iI_o0, sr_0 (n := nn) (by omega) (by omega) hfvn]
              refine x_iconst C dX6_divide_291 ?_
              refine x_goto (tgt := 314) C dX6_divide_292 (by decide) ?_
              refine x_ior C (z := _) dX6_divide_314 hor2 ?_
              refine r_ast C dX6_divide_315 (fun _ => rfl) (by omega) (by omega) ?_
              refine x_iinc C (lv' := [(3, _), (4, _), (2, _), (1, _), (0, _)]) dX6_divide_316 rfl (by decide) rfl ?_
              refine x_goto (tgt := 201) C dX6_divide_319 (by decide) ?_
              refine X.sub [0, 2, 3, 4] rfl ?_
              rw [show (i : Int) + 1 = ((i + 1 : Nat) : Int) by omega]
              simp only [Int.toNat_natCast]
              refine ih (i + 1) (by omega) (by omega) _ ?_ ?_ ?_ ?_ ?_ ?_ (fun q q1 q2 => by rw [up_n q2, up_n q1]; exact h3 q q1 q2)
              · intro q q1 q2; rw [up_n (by decide), up_s, zup_n (by omega)]; exact h1 q (by omega) q2
              · intro q q1 q2; rw [up_s, zup_n (by omega), up_n (by decide)]; exact h2 q (by omega) q2
              · intro q hq
                rw [up_n (by decide), up_s]
                by_cases c : q = i
                · rw [c, zup_s]
                · rw [zup_n c]; exact h4 q (by omega)
              · intro q hq
                rw [up_s, up_n (by decide)]
                by_cases c : q = i
                · rw [c, zup_s]
                · rw [zup_n c]; exact h5 q (by omega)
              · intro q hq; rw [up_n (by decide), up_s, zup_n (by omega)]; exact h6 q hq
              · intro q hq; rw [up_s, zup_n (by omega), up_n (by decide)]; exact h7 q hq
    · refine x_iload_n C dX6_divide_213 rfl rfl ?_
      refine x_iconst C dX6_divide_214 ?_
      refine x_iadd C dX6_divide_215 ?_
      refine x_goto (tgt := 220) C dX6_divide_216 (by decide) ?_
      refine x_istore C (lv' := [(4, _), (3, _), (2, _), (1, _), (0, _)]) dX6_divide_220 (by decide) rfl ?_
      refine x_aload_n C dX6_divide_222 rfl rfl ?_
      refine x_get C (Cn := RX6) (T := TX6) (N := 33) (ci := 6) 24 dX6_divide_223 m_w_6 m_f_RX6_66 rfl (by decide) rfl rfl ?_
      refine x_iload_n C dX6_divide_226 rfl rfl ?_
      refine x_aload_n C dX6_divide_227 rfl rfl ?_
      refine x_get C (Cn := RX6) (T := TX6) (N := 33) (ci := 6) 24 dX6_divide_228 m_w_6 m_f_RX6_66 rfl (by decide) rfl rfl ?_
      refine x_iload_n C dX6_divide_231 rfl rfl ?_
      refine x_iald C dX6_divide_232 rfl (by omega) (by omega) ?_
      rw [Int.toNat_natCast, h1 i (Nat.le_refl i) (by omega)]
      refine x_iload_n C dX6_divide_233 rfl rfl ?_
      refine x_ishr C dX6_divide_234 (by omega) (by omega) ?_
      rw [Int.toNat_natCast]
      refine x_iload_n C dX6_divide_235 rfl rfl ?_
      refine x_if_eq (tgt := 244) C dX6_divide_236 (by decide) (by omega) (fun c_236 => ?_) (fun c_236 => ?_)
      · have hor1 : iI (fu i / 2 ^ s0) ||| iI 0 = iI (sr fu s0 i) := by rw [iI_o0, sr_0 (n := nn) (by omega) (by omega) hfun]
        refine x_iconst C dX6_divide_244 ?_
        refine x_goto (tgt := 267) C dX6_divide_245 (by decide) ?_
        refine x_ior C (z := _) dX6_divide_267 hor1 ?_
        refine r_ast C dX6_divide_268 (fun _ => rfl) (by omega) (by omega) ?_
        refine x_aload_n C dX6_divide_269 rfl rfl ?_
        refine x_get C (Cn := RX6) (T := TX6) (N := 33) (ci := 6) 25 dX6_divide_270 m_w_6 m_f_RX6_69 rfl (by decide) rfl rfl ?_
        refine x_iload_n C dX6_divide_273 rfl rfl ?_
        refine x_aload_n C dX6_divide_274 rfl rfl ?_
        refine x_get C (Cn := RX6) (T := TX6) (N := 33) (ci := 6) 25 dX6_divide_275 m_w_6 m_f_RX6_69 rfl (by decide) rfl rfl ?_
        refine x_iload_n C dX6_divide_278 rfl rfl ?_
        refine x_iald C dX6_divide_279 rfl (by omega) (by omega) ?_
        rw [Int.toNat_natCast, up_n (show 25 ≠ 24 by decide), h2 i (Nat.le_refl i) (by omega)]
        refine x_iload_n C dX6_divide_280 rfl rfl ?_
        refine x_ishr C dX6_divide_281 (by omega) (by omega) ?_
        rw [Int.toNat_natCast]
        refine x_iload_n C dX6_divide_282 rfl rfl ?_
        refine x_if_eq (tgt := 291) C dX6_divide_283 (by decide) (by omega) (fun c_283 => ?_) (fun c_283 => ?_)
        · have hor2 : iI (fv i / 2 ^ s0) ||| iI 0 = iI (sr fv s0 i) := by rw [iI_o0, sr_0 (n := nn) (by omega) (by omega) hfvn]
          refine x_iconst C dX6_divide_291 ?_
          refine x_goto (tgt := 314) C dX6_divide_292 (by decide) ?_
          refine x_ior C (z := _) dX6_divide_314 hor2 ?_
          refine r_ast C dX6_divide_315 (fun _ => rfl) (by omega) (by omega) ?_
          refine x_iinc C (lv' := [(3, _), (4, _), (2, _), (1, _), (0, _)]) dX6_divide_316 rfl (by decide) rfl ?_
          refine x_goto (tgt := 201) C dX6_divide_319 (by decide) ?_
          refine X.sub [0, 2, 3, 4] rfl ?_
          rw [show (i : Int) + 1 = ((i + 1 : Nat) : Int) by omega]
          simp only [Int.toNat_natCast]
          refine ih (i + 1) (by omega) (by omega) _ ?_ ?_ ?_ ?_ ?_ ?_ (fun q q1 q2 => by rw [up_n q2, up_n q1]; exact h3 q q1 q2)
          · intro q q1 q2; rw [up_n (by decide), up_s, zup_n (by omega)]; exact h1 q (by omega) q2
          · intro q q1 q2; rw [up_s, zup_n (by omega), up_n (by decide)]; exact h2 q (by omega) q2
          · intro q hq
            rw [up_n (by decide), up_s]
            by_cases c : q = i
            · rw [c, zup_s]
            · rw [zup_n c]; exact h4 q (by omega)
          · intro q hq
            rw [up_s, up_n (by decide)]
            by_cases c : q = i
            · rw [c, zup_s]
            · rw [zup_n c]; exact h5 q (by omega)
          · intro q hq; rw [up_n (by decide), up_s, zup_n (by omega)]; exact h6 q hq
          · intro q hq; rw [up_s, zup_n (by omega), up_n (by decide)]; exact h7 q hq
        · refine x_iload C dX6_divide_286 rfl ?_
          refine x_if_ge (tgt := 295) C dX6_divide_288 (by decide) (by omega) (fun c_288 => ?_) (fun c_288 => ?_)
          · have hin2 : i + 1 < nn := by omega
            have hf22 := hfv (i + 1) (by omega)
            have hs02 : 1 ≤ s0 := by omega
            refine x_aload_n C dX6_divide_295 rfl rfl ?_
            refine x_get C (Cn := RX6) (T := TX6) (N := 33) (ci := 6) 25 dX6_divide_296 m_w_6 m_f_RX6_69 rfl (by decide) rfl rfl ?_
            refine x_iload_n C dX6_divide_299 rfl rfl ?_
            refine x_iconst C dX6_divide_300 ?_
            refine x_iadd C dX6_divide_301 ?_
            refine x_iald C dX6_divide_302 rfl (by omega) (by omega) ?_
            rw [show ((i : Int) + 1).toNat = i + 1 by omega, up_n (show 25 ≠ 24 by decide), h2 (i + 1) (by omega) (by omega)]
            refine x_i2l C dX6_divide_303 (by omega) ?_
            refine x_bipush C (z := 31) dX6_divide_304 (by decide) ?_
            refine x_iload_n C dX6_divide_306 rfl rfl ?_
            refine x_isub C dX6_divide_307 ?_
            refine x_lshl C dX6_divide_308 (by omega) ?_
            rw [show ((31 : Int) - (s0 : Int)).toNat = 31 - s0 by omega]
            refine x_ldc2 C (z := 2147483647) dX6_divide_309 (C.2.2.2.2.1 _ m_k_RX6_189) (by decide) ?_
            refine x_land C (z := _) dX6_divide_312 (lI_mask _) ?_
            rw [sl_mod2 (by omega) hf22]
            have hor2 : iI (fv i / 2 ^ s0) ||| iI (fv (i + 1) % 2 ^ s0 * 2 ^ (31 - s0)) = iI (sr fv s0 i) := iI_ro (31 - s0) (by omega) rfl (ems _ _).1 ⟨q2.1, q2.2.1⟩ (by omega)
            refine x_l2i C dX6_divide_313 ?_
            refine x_ior C (z := _) dX6_divide_314 hor2 ?_
            refine r_ast C dX6_divide_315 (fun _ => rfl) (by omega) (by omega) ?_
            refine x_iinc C (lv' := [(3, _), (4, _), (2, _), (1, _), (0, _)]) dX6_divide_316 rfl (by decide) rfl ?_
            refine x_goto (tgt := 201) C dX6_divide_319 (by decide) ?_
            refine X.sub [0, 2, 3, 4] rfl ?_
            rw [show (i : Int) + 1 = ((i + 1 : Nat) : Int) by omega]
            simp only [Int.toNat_natCast]
            refine ih (i + 1) (by omega) (by omega) _ ?_ ?_ ?_ ?_ ?_ ?_ (fun q q1 q2 => by rw [up_n q2, up_n q1]; exact h3 q q1 q2)
            · intro q q1 q2; rw [up_n (by decide), up_s, zup_n (by omega)]; exact h1 q (by omega) q2
            · intro q q1 q2; rw [up_s, zup_n (by omega), up_n (by decide)]; exact h2 q (by omega) q2
            · intro q hq
              rw [up_n (by decide), up_s]
              by_cases c : q = i
              · rw [c, zup_s]
              · rw [zup_n c]; exact h4 q (by omega)
            · intro q hq
              rw [up_s, up_n (by decide)]
              by_cases c : q = i
              · rw [c, zup_s]
              · rw [zup_n c]; exact h5 q (by omega)
            · intro q hq; rw [up_n (by decide), up_s, zup_n (by omega)]; exact h6 q hq
            · intro q hq; rw [up_s, zup_n (by omega), up_n (by decide)]; exact h7 q hq
          · have hor2 : iI (fv i / 2 ^ s0) ||| iI 0 = iI (sr fv s0 i) := by rw [iI_o0, sr_0 (n := nn) (by omega) (by omega) hfvn]
            refine x_iconst C dX6_divide_291 ?_
            refine x_goto (tgt := 314) C dX6_divide_292 (by decide) ?_
            refine x_ior C (z := _) dX6_divide_314 hor2 ?_
            refine r_ast C dX6_divide_315 (fun _ => rfl) (by omega) (by omega) ?_
            refine x_iinc C (lv' := [(3, _), (4, _), (2, _), (1, _), (0, _)]) dX6_divide_316 rfl (by decide) rfl ?_
            refine x_goto (tgt := 201) C dX6_divide_319 (by decide) ?_
            refine X.sub [0, 2, 3, 4] rfl ?_
            rw [show (i : Int) + 1 = ((i + 1 : Nat) : Int) by omega]
            simp only [Int.toNat_natCast]
            refine ih (i + 1) (by omega) (by omega) _ ?_ ?_ ?_ ?_ ?_ ?_ (fun q q1 q2 => by rw [up_n q2, up_n q1]; exact h3 q q1 q2)
            · intro q q1 q2; rw [up_n (by decide), up_s, zup_n (by omega)]; exact h1 q (by omega) q2
            · intro q q1 q2; rw [up_s, zup_n (by omega), up_n (by decide)]; exact h2 q (by omega) q2
            · intro q hq
              rw [up_n (by decide), up_s]
              by_cases c : q = i
              · rw [c, zup_s]
              · rw [zup_n c]; exact h4 q (by omega)
            · intro q hq
              rw [up_s, up_n (by decide)]
              by_cases c : q = i
              · rw [c, zup_s]
              · rw [zup_n c]; exact h5 q (by omega)
            · intro q hq; rw [up_n (by decide), up_s, zup_n (by omega)]; exact h6 q hq
            · intro q hq; rw [up_s, zup_n (by omega), up_n (by decide)]; exact h7 q hq
      · refine x_iload C dX6_divide_239 rfl ?_
        refine x_if_ge (tgt := 248) C dX6_divide_241 (by decide) (by omega) (fun c_241 => ?_) (fun c_241 => ?_)
        · have hin1 : i + 1 < nn := by omega
          have hf21 := hfu (i + 1) (by omega)
          have hs01 : 1 ≤ s0 := by omega
          refine x_aload_n C dX6_divide_248 rfl rfl ?_
          refine x_get C (Cn := RX6) (T := TX6) (N := 33) (ci := 6) 24 dX6_divide_249 m_w_6 m_f_RX6_66 rfl (by decide) rfl rfl ?_
          refine x_iload_n C dX6_divide_252 rfl rfl ?_
          refine x_iconst C dX6_divide_253 ?_
          refine x_iadd C dX6_divide_254 ?_
          refine x_iald C dX6_divide_255 rfl (by omega) (by omega) ?_
          rw [show ((i : Int) + 1).toNat = i + 1 by omega, h1 (i + 1) (by omega) (by omega)]
          refine x_i2l C dX6_divide_256 (by omega) ?_
          refine x_bipush C (z := 31) dX6_divide_257 (by decide) ?_
          refine x_iload_n C dX6_divide_259 rfl rfl ?_
          refine x_isub C dX6_divide_260 ?_
          refine x_lshl C dX6_divide_261 (by omega) ?_
          rw [show ((31 : Int) - (s0 : Int)).toNat = 31 - s0 by omega]
          refine x_ldc2 C (z := 2147483647) dX6_divide_262 (C.2.2.2.2.1 _ m_k_RX6_189) (by decide) ?_
          refine x_land C (z := _) dX6_divide_265 (lI_mask _) ?_
          rw [sl_mod2 (by omega) hf21]
          have hor1 : iI (fu i / 2 ^ s0) ||| iI (fu (i + 1) % 2 ^ s0 * 2 ^ (31 - s0)) = iI (sr fu s0 i) := iI_ro (31 - s0) (by omega) rfl (ems _ _).1 ⟨q1.1, q1.2.1⟩ (by omega)
          refine x_l2i C dX6_divide_266 ?_
          refine x_ior C (z := _) dX6_divide_267 hor1 ?_
          refine r_ast C dX6_divide_268 (fun _ => rfl) (by omega) (by omega) ?_
          refine x_aload_n C dX6_divide_269 rfl rfl ?_
          refine x_get C (Cn := RX6) (T := TX6) (N := 33) (ci := 6) 25 dX6_divide_270 m_w_6 m_f_RX6_69 rfl (by decide) rfl rfl ?_
          refine x_iload_n C dX6_divide_273 rfl rfl ?_
          refine x_aload_n C dX6_divide_274 rfl rfl ?_
          refine x_get C (Cn := RX6) (T := TX6) (N := 33) (ci := 6) 25 dX6_divide_275 m_w_6 m_f_RX6_69 rfl (by decide) rfl rfl ?_
          refine x_iload_n C dX6_divide_278 rfl rfl ?_
          refine x_iald C dX6_divide_279 rfl (by omega) (by omega) ?_
          rw [Int.toNat_natCast, up_n (show 25 ≠ 24 by decide), h2 i (Nat.le_refl i) (by omega)]
          refine x_iload_n C dX6_divide_280 rfl rfl ?_
          refine x_ishr C dX6_divide_281 (by omega) (by omega) ?_
          rw [Int.toNat_natCast]
          refine x_iload_n C dX6_divide_282 rfl rfl ?_
          refine x_if_eq (tgt := 291) C dX6_divide_283 (by decide) (by omega) (fun c_283 => ?_) (fun c_283 => ?_)
          · have hor2 : iI (fv i / 2 ^ s0) ||| iI 0 = iI (sr fv s0 i) := by rw [iI_o0, sr_0 (n := nn) (by omega) (by omega) hfvn]
            refine x_iconst C dX6_divide_291 ?_
            refine x_goto (tgt := 314) C dX6_divide_292 (by decide) ?_
            refine x_ior C (z := _) dX6_divide_314 hor2 ?_
            refine r_ast C dX6_divide_315 (fun _ => rfl) (by omega) (by omega) ?_
            refine x_iinc C (lv' := [(3, _), (4, _), (2, _), (1, _), (0, _)]) dX6_divide_316 rfl (by decide) rfl ?_
            refine x_goto (tgt := 201) C dX6_divide_319 (by decide) ?_
            refine X.sub [0, 2, 3, 4] rfl ?_
            rw [show (i : Int) + 1 = ((i + 1 : Nat) : Int) by omega]
            simp only [Int.toNat_natCast]
            refine ih (i + 1) (by omega) (by omega) _ ?_ ?_ ?_ ?_ ?_ ?_ (fun q q1 q2 => by rw [up_n q2, up_n q1]; exact h3 q q1 q2)
            · intro q q1 q2; rw [up_n (by decide), up_s, zup_n (by omega)]; exact h1 q (by omega) q2
            · intro q q1 q2; rw [up_s, zup_n (by omega), up_n (by decide)]; exact h2 q (by omega) q2
            · intro q hq
              rw [up_n (by decide), up_s]
              by_cases c : q = i
              · rw [c, zup_s]
              · rw [zup_n c]; exact h4 q (by omega)
            · intro q hq
              rw [up_s, up_n (by decide)]
              by_cases c : q = i
              · rw [c, zup_s]
              · rw [zup_n c]; exact h5 q (by omega)
            · intro q hq; rw [up_n (by decide), up_s, zup_n (by omega)]; exact h6 q hq
            · intro q hq; rw [up_s, zup_n (by omega), up_n (by decide)]; exact h7 q hq
          · refine x_iload C dX6_divide_286 rfl ?_
            refine x_if_ge (tgt := 295) C dX6_divide_288 (by decide) (by omega) (fun c_288 => ?_) (fun c_288 => ?_)
            · have hin2 : i + 1 < nn := by omega
              have hf22 := hfv (i + 1) (by omega)
              have hs02 : 1 ≤ s0 := by omega
              refine x_aload_n C dX6_divide_295 rfl rfl ?_
              refine x_get C (Cn := RX6) (T := TX6) (N := 33) (ci := 6) 25 dX6_divide_296 m_w_6 m_f_RX6_69 rfl (by decide) rfl rfl ?_
              refine x_iload_n C dX6_divide_299 rfl rfl ?_
              refine x_iconst C dX6_divide_300 ?_
              refine x_iadd C dX6_divide_301 ?_
              refine x_iald C dX6_divide_302 rfl (by omega) (by omega) ?_
              rw [show ((i : Int) + 1).toNat = i + 1 by omega, up_n (show 25 ≠ 24 by decide), h2 (i + 1) (by omega) (by omega)]
              refine x_i2l C dX6_divide_303 (by omega) ?_
              refine x_bipush C (z := 31) dX6_divide_304 (by decide) ?_
              refine x_iload_n C dX6_divide_306 rfl rfl ?_
              refine x_isub C dX6_divide_307 ?_
              refine x_lshl C dX6_divide_308 (by omega) ?_
              rw [show ((31 : Int) - (s0 : Int)).toNat = 31 - s0 by omega]
              refine x_ldc2 C (z := 2147483647) dX6_divide_309 (C.2.2.2.2.1 _ m_k_RX6_189) (by decide) ?_
              refine x_land C (z := _) dX6_divide_312 (lI_mask _) ?_
              rw [sl_mod2 (by omega) hf22]
              have hor2 : iI (fv i / 2 ^ s0) ||| iI (fv (i + 1) % 2 ^ s0 * 2 ^ (31 - s0)) = iI (sr fv s0 i) := iI_ro (31 - s0) (by omega) rfl (ems _ _).1 ⟨q2.1, q2.2.1⟩ (by omega)
              refine x_l2i C dX6_divide_313 ?_
              refine x_ior C (z := _) dX6_divide_314 hor2 ?_
              refine r_ast C dX6_divide_315 (fun _ => rfl) (by omega) (by omega) ?_
              refine x_iinc C (lv' := [(3, _), (4, _), (2, _), (1, _), (0, _)]) dX6_divide_316 rfl (by decide) rfl ?_
              refine x_goto (tgt := 201) C dX6_divide_319 (by decide) ?_
              refine X.sub [0, 2, 3, 4] rfl ?_
              rw [show (i : Int) + 1 = ((i + 1 : Nat) : Int) by omega]
              simp only [Int.toNat_natCast]
              refine ih (i + 1) (by omega) (by omega) _ ?_ ?_ ?_ ?_ ?_ ?_ (fun q q1 q2 => by rw [up_n q2, up_n q1]; exact h3 q q1 q2)
              · intro q q1 q2; rw [up_n (by decide), up_s, zup_n (by omega)]; exact h1 q (by omega) q2
              · intro q q1 q2; rw [up_s, zup_n (by omega), up_n (by decide)]; exact h2 q (by omega) q2
              · intro q hq
                rw [up_n (by decide), up_s]
                by_cases c : q = i
                · rw [c, zup_s]
                · rw [zup_n c]; exact h4 q (by omega)
              · intro q hq
                rw [up_s, up_n (by decide)]
                by_cases c : q = i
                · rw [c, zup_s]
                · rw [zup_n c]; exact h5 q (by omega)
              · intro q hq; rw [up_n (by decide), up_s, zup_n (by omega)]; exact h6 q hq
              · intro q hq; rw [up_s, zup_n (by omega), up_n (by decide)]; exact h7 q hq
            · have hor2 : iI (fv i / 2 ^ s0) ||| iI 0 = iI (sr fv s0 i) := by rw [iI_o0, sr_0 (n := nn) (by omega) (by omega) hfvn]
              refine x_iconst C dX6_divide_291 ?_
              refine x_goto (tgt := 314) C dX6_divide_292 (by decide) ?_
              refine x_ior C (z := _) dX6_divide_314 hor2 ?_
              refine r_ast C dX6_divide_315 (fun _ => rfl) (by omega) (by omega) ?_
              refine x_iinc C (lv' := [(3, _), (4, _), (2, _), (1, _), (0, _)]) dX6_divide_316 rfl (by decide) rfl ?_
              refine x_goto (tgt := 201) C dX6_divide_319 (by decide) ?_
              refine X.sub [0, 2, 3, 4] rfl ?_
              rw [show (i : Int) + 1 = ((i + 1 : Nat) : Int) by omega]
              simp only [Int.toNat_natCast]
              refine ih (i + 1) (by omega) (by omega) _ ?_ ?_ ?_ ?_ ?_ ?_ (fun q q1 q2 => by rw [up_n q2, up_n q1]; exact h3 q q1 q2)
              · intro q q1 q2; rw [up_n (by decide), up_s, zup_n (by omega)]; exact h1 q (by omega) q2
              · intro q q1 q2; rw [up_s, zup_n (by omega), up_n (by decide)]; exact h2 q (by omega) q2
              · intro q hq
                rw [up_n (by decide), up_s]
                by_cases c : q = i
                · rw [c, zup_s]
                · rw [zup_n c]; exact h4 q (by omega)
              · intro q hq
                rw [up_s, up_n (by decide)]
                by_cases c : q = i
                · rw [c, zup_s]
                · rw [zup_n c]; exact h5 q (by omega)
              · intro q hq; rw [up_n (by decide), up_s, zup_n (by omega)]; exact h6 q hq
              · intro q hq; rw [up_s, zup_n (by omega), up_n (by decide)]; exact h7 q hq
        · have hor1 : iI (fu i / 2 ^ s0) ||| iI 0 = iI (sr fu s0 i) := by rw [iI_o0, sr_0 (n := nn) (by omega) (by omega) hfun]
          refine x_iconst C dX6_divide_244 ?_
          refine x_goto (tgt := 267) C dX6_divide_245 (by decide) ?_
          refine x_ior C (z := _) dX6_divide_267 hor1 ?_
          refine r_ast C dX6_divide_268 (fun _ => rfl) (by omega) (by omega) ?_
          refine x_aload_n C dX6_divide_269 rfl rfl ?_
          refine x_get C (Cn := RX6) (T := TX6) (N := 33) (ci := 6) 25 dX6_divide_270 m_w_6 m_f_RX6_69 rfl (by decide) rfl rfl ?_
          refine x_iload_n C dX6_divide_273 rfl rfl ?_
          refine x_aload_n C dX6_divide_274 rfl rfl ?_
          refine x_get C (Cn := RX6) (T := TX6) (N := 33) (ci := 6) 25 dX6_divide_275 m_w_6 m_f_RX6_69 rfl (by decide) rfl rfl ?_
          refine x_iload_n C dX6_divide_278 rfl rfl ?_
          refine x_iald C dX6_divide_279 rfl (by omega) (by omega) ?_
          rw [Int.toNat_natCast, up_n (show 25 ≠ 24 by decide), h2 i (Nat.le_refl i) (by omega)]
          refine x_iload_n C dX6_divide_280 rfl rfl ?_
          refine x_ishr C dX6_divide_281 (by omega) (by omega) ?_
          rw [Int.toNat_natCast]
          refine x_iload_n C dX6_divide_282 rfl rfl ?_
          refine x_if_eq (tgt := 291) C dX6_divide_283 (by decide) (by omega) (fun c_283 => ?_) (fun c_283 => ?_)
          · have hor2 : iI (fv i / 2 ^ s0) ||| iI 0 = iI (sr fv s0 i) := by rw [iI_o0, sr_0 (n := nn) (by omega) (by omega) hfvn]
            refine x_iconst C dX6_divide_291 ?_
            refine x_goto (tgt := 314) C dX6_divide_292 (by decide) ?_
            refine x_ior C (z := _) dX6_divide_314 hor2 ?_
            refine r_ast C dX6_divide_315 (fun _ => rfl) (by omega) (by omega) ?_
            refine x_iinc C (lv' := [(3, _), (4, _), (2, _), (1, _), (0, _)]) dX6_divide_316 rfl (by decide) rfl ?_
            refine x_goto (tgt := 201) C dX6_divide_319 (by decide) ?_
            refine X.sub [0, 2, 3, 4] rfl ?_
            rw [show (i : Int) + 1 = ((i + 1 : Nat) : Int) by omega]
            simp only [Int.toNat_natCast]
            refine ih (i + 1) (by omega) (by omega) _ ?_ ?_ ?_ ?_ ?_ ?_ (fun q q1 q2 => by rw [up_n q2, up_n q1]; exact h3 q q1 q2)
            · intro q q1 q2; rw [up_n (by decide), up_s, zup_n (by omega)]; exact h1 q (by omega) q2
            · intro q q1 q2; rw [up_s, zup_n (by omega), up_n (by decide)]; exact h2 q (by omega) q2
            · intro q hq
              rw [up_n (by decide), up_s]
              by_cases c : q = i
              · rw [c, zup_s]
              · rw [zup_n c]; exact h4 q (by omega)
            · intro q hq
              rw [up_s, up_n (by decide)]
              by_cases c : q = i
              · rw [c, zup_s]
              · rw [zup_n c]; exact h5 q (by omega)
            · intro q hq; rw [up_n (by decide), up_s, zup_n (by omega)]; exact h6 q hq
            · intro q hq; rw [up_s, zup_n (by omega), up_n (by decide)]; exact h7 q hq
          · refine x_iload C dX6_divide_286 rfl ?_
            refine x_if_ge (tgt := 295) C dX6_divide_288 (by decide) (by omega) (fun c_288 => ?_) (fun c_288 => ?_)
            · have hin2 : i + 1 < nn := by omega
              have hf22 := hfv (i + 1) (by omega)
              have hs02 : 1 ≤ s0 := by omega
              refine x_aload_n C dX6_divide_295 rfl rfl ?_
              refine x_get C (Cn := RX6) (T := TX6) (N := 33) (ci := 6) 25 dX6_divide_296 m_w_6 m_f_RX6_69 rfl (by decide) rfl rfl ?_
              refine x_iload_n C dX6_divide_299 rfl rfl ?_
              refine x_iconst C dX6_divide_300 ?_
              refine x_iadd C dX6_divide_301 ?_
              refine x_iald C dX6_divide_302 rfl (by omega) (by omega) ?_
              rw [show ((i : Int) + 1).toNat = i + 1 by omega, up_n (show 25 ≠ 24 by decide), h2 (i + 1) (by omega) (by omega)]
              refine x_i2l C dX6_divide_303 (by omega) ?_
              refine x_bipush C (z := 31) dX6_divide_304 (by decide) ?_
              refine x_iload_n C dX6_divide_306 rfl rfl ?_
              refine x_isub C dX6_divide_307 ?_
              refine x_lshl C dX6_divide_308 (by omega) ?_
              rw [show ((31 : Int) - (s0 : Int)).toNat = 31 - s0 by omega]
              refine x_ldc2 C (z := 2147483647) dX6_divide_309 (C.2.2.2.2.1 _ m_k_RX6_189) (by decide) ?_
              refine x_land C (z := _) dX6_divide_312 (lI_mask _) ?_
              rw [sl_mod2 (by omega) hf22]
              have hor2 : iI (fv i / 2 ^ s0) ||| iI (fv (i + 1) % 2 ^ s0 * 2 ^ (31 - s0)) = iI (sr fv s0 i) := iI_ro (31 - s0) (by omega) rfl (ems _ _).1 ⟨q2.1, q2.2.1⟩ (by omega)
              refine x_l2i C dX6_divide_313 ?_
              refine x_ior C (z := _) dX6_divide_314 hor2 ?_
              refine r_ast C dX6_divide_315 (fun _ => rfl) (by omega) (by omega) ?_
              refine x_iinc C (lv' := [(3, _), (4, _), (2, _), (1, _), (0, _)]) dX6_divide_316 rfl (by decide) rfl ?_
              refine x_goto (tgt := 201) C dX6_divide_319 (by decide) ?_
              refine X.sub [0, 2, 3, 4] rfl ?_
              rw [show (i : Int) + 1 = ((i + 1 : Nat) : Int) by omega]
              simp only [Int.toNat_natCast]
              refine ih (i + 1) (by omega) (by omega) _ ?_ ?_ ?_ ?_ ?_ ?_ (fun q q1 q2 => by rw [up_n q2, up_n q1]; exact h3 q q1 q2)
              · intro q q1 q2; rw [up_n (by decide), up_s, zup_n (by omega)]; exact h1 q (by omega) q2
              · intro q q1 q2; rw [up_s, zup_n (by omega), up_n (by decide)]; exact h2 q (by omega) q2
              · intro q hq
                rw [up_n (by decide), up_s]
                by_cases c : q = i
                · rw [c, zup_s]
                · rw [zup_n c]; exact h4 q (by omega)
              · intro q hq
                rw [up_s, up_n (by decide)]
                by_cases c : q = i
                · rw [c, zup_s]
                · rw [zup_n c]; exact h5 q (by omega)
              · intro q hq; rw [up_n (by decide), up_s, zup_n (by omega)]; exact h6 q hq
              · intro q hq; rw [up_s, zup_n (by omega), up_n (by decide)]; exact h7 q hq
            · have hor2 : iI (fv i / 2 ^ s0) ||| iI 0 = iI (sr fv s0 i) := by rw [iI_o0, sr_0 (n := nn) (by omega) (by omega) hfvn]
              refine x_iconst C dX6_divide_291 ?_
              refine x_goto (tgt := 314) C dX6_divide_292 (by decide) ?_
              refine x_ior C (z := _) dX6_divide_314 hor2 ?_
              refine r_ast C dX6_divide_315 (fun _ => rfl) (by omega) (by omega) ?_
              refine x_iinc C (lv' := [(3, _), (4, _), (2, _), (1, _), (0, _)]) dX6_divide_316 rfl (by decide) rfl ?_
              refine x_goto (tgt := 201) C dX6_divide_319 (by decide) ?_
              refine X.sub [0, 2, 3, 4] rfl ?_
              rw [show (i : Int) + 1 = ((i + 1 : Nat) : Int) by omega]
              simp only [Int.toNat_natCast]
              refine ih (i + 1) (by omega) (by omega) _ ?_ ?_ ?_ ?_ ?_ ?_ (fun q q1 q2 => by rw [up_n q2, up_n q1]; exact h3 q q1 q2)
              · intro q q1 q2; rw [up_n (by decide), up_s, zup_n (by omega)]; exact h1 q (by omega) q2
              · intro q q1 q2; rw [up_s, zup_n (by omega), up_n (by decide)]; exact h2 q (by omega) q2
              · intro q hq
                rw [up_n (by decide), up_s]
                by_cases c : q = i
                · rw [c, zup_s]
                · rw [zup_n c]; exact h4 q (by omega)
              · intro q hq
                rw [up_s, up_n (by decide)]
                by_cases c : q = i
                · rw [c, zup_s]
                · rw [zup_n c]; exact h5 q (by omega)
              · intro q hq; rw [up_n (by decide), up_s, zup_n (by omega)]; exact h6 q hq
              · intro q hq; rw [up_s, zup_n (by omega), up_n (by decide)]; exact h7 q hq
