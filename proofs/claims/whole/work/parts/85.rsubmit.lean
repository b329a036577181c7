/-! THE REFERENCE'S SUBMIT -/
def rZer (ρ : St) (h : Int) : Prop := ∃ A n : Nat, ρ 8 h.toNat = A ∧ ρ 7 h.toNat = n ∧ sgP (ρ 4) A n 0
def upn (ρ : St) (h : Nat) : St := up ρ 10 h (ρ 10 h + 1)
def sb1 (ρ : St) (j : Nat) (op a b t3 : Int) : St := up (up (up (up (up (up (up ρ 12 j 0) 13 j op) 14 j a) 15 j b) 16 j t3) 18 j (-1)) 20 j (-1)
def sb2 (ρ : St) (op : Int) (an bn mn : Nat) : St := if op = 3 then upn (upn (upn ρ an) bn) mn else upn (upn ρ an) bn
def rsF (ρ : St) (op a b mi : Int) (j an bn mn sa sb sm : Nat) : St := up (up (sb2 (up (sb1 ρ j op a b (if op = 3 then mi else -1)) 17 j (plW op sa sb sm)) op an bn mn) 21 (ρ 0 22).toNat j) 0 22 (ρ 0 22 + 1)
def rsJ (ρ ρ' : St) (op a b mi : Int) (j : Nat) : Prop := ∃ (an bn mn sa sb sm : Nat), a = an ∧ b = bn ∧ (op = 3 → mi = mn ∧ ρ 7 mn = sm) ∧ (op ≠ 3 → sm = 0) ∧ ρ 7 an = sa ∧ ρ 7 bn = sb ∧ ρ' = rsF ρ op a b mi j an bn mn sa sb sm
def rsP (g : Nat × Nat × Nat × Nat) (ρ ρ' : St) (op a b mi v : Int) : Prop := (¬ (0 ≤ op ∧ op ≤ 3) ∧ v = -5 ∧ ρ = ρ') ∨ ((0 ≤ op ∧ op ≤ 3) ∧ ((¬ (rOp g ρ a ∧ rOp g ρ b ∧ (op = 3 → rOp g ρ mi)) ∧ v = -6 ∧ ρ = ρ') ∨ ((rOp g ρ a ∧ rOp g ρ b ∧ (op = 3 → rOp g ρ mi)) ∧
  ((((op = 1 ∧ rZer ρ b) ∨ (op = 3 ∧ rZer ρ mi)) ∧ v = -7 ∧ ρ = ρ') ∨ (¬ ((op = 1 ∧ rZer ρ b) ∨ (op = 3 ∧ rZer ρ mi)) ∧
    (((∀ k, k < g.2.2.2 → ¬ ρ 12 k < 0) ∧ v = -8 ∧ ρ = ρ') ∨ ∃ j : Nat, (j < g.2.2.2 ∧ ρ 12 j < 0 ∧ ∀ i, i < j → ¬ ρ 12 i < 0) ∧ v = j ∧ rsJ ρ ρ' op a b mi j))))))
def HMr (ρ : St) (op mi : Int) : Prop := op = 3 → ∃ mn A z : Nat, mi = mn ∧ mn < 24 ∧ ρ 8 mn = A ∧ ρ 7 mn = z ∧ A + z ≤ 2048
theorem rz_of {ρ : St} {n A z : Nat} (h : rZer ρ (n : Int)) (hA : ρ 8 n = A) (hz : ρ 7 n = z) : sgP (ρ 4) A z 0 := by
  obtain ⟨A1, z1, e1, e2, e3⟩ := h
  rw [Int.toNat_natCast] at e1 e2
  obtain rfl : A = A1 := by omega
  obtain rfl : z = z1 := by omega
  exact e3
set_option maxHeartbeats 4000000 in
set_option maxRecDepth 100000 in
theorem rp_sub90 {p : Program} {l : Launch} {e : Env} {R : Room} {s : State} {m : MethodId} {args : Array Value} {below : List Frame} {meth : Method} {c : Code} {D : va_G} {ad : Nat → Nat} {Q : State → Prop} (C : Fx p s m args meth c D ad cX6_submit 13 (some .int) yX6_submit.cls tb) {g : Nat × Nat × Nat × Nat} (hg : 3 ≤ g.1 ∧ g.1 ≤ 11 ∧ 8 ≤ g.2.1 ∧ g.2.1 ≤ 2048 ∧ 1 ≤ g.2.2.1 ∧ g.2.2.1 ≤ 24 ∧ 1 ≤ g.2.2.2 ∧ g.2.2.2 ≤ 12) (ρ : St) (hs : RS g ρ) (hF : RF ρ) (p5 op mi : Int) (an bn : Nat) (K : ∀ r : Nat, (∀ i, i < r → ¬ ρ 12 i < 0) → ((r = g.2.2.2) ∨ (r < g.2.2.2 ∧ ρ 12 r < 0)) → X p l e R s m args below meth c D ad 13 Q (rc D ad ρ) 115 [(6, vi (r : Int)), (5, vi p5), (0, .ref (ad 0)), (1, vi op), (2, vi (an : Int)), (3, vi (bn : Int)), (4, vi mi)] []) (n i : Nat) (hn : g.2.2.2 - i < n) (hi : i ≤ g.2.2.2) (hb : ∀ k, k < i → ¬ ρ 12 k < 0) : X p l e R s m args below meth c D ad 13 Q (rc D ad ρ) 90 [(6, vi (i : Int)), (5, vi p5), (0, .ref (ad 0)), (1, vi op), (2, vi (an : Int)), (3, vi (bn : Int)), (4, vi mi)] [] := by
  induction n generalizing i with
  | zero => omega
  | succ n ih =>
  refine x_iload C dX6_submit_90 rfl ?_
  refine x_aload_n C dX6_submit_92 rfl rfl ?_
  refine x_get C (Cn := RX6) (T := TX6) (N := 33) (ci := 6) 1 dX6_submit_93 m_w_6 m_f_RX6_89 rfl (by decide) rfl rfl ?_
  rw [hs.2.1]
  refine x_icmp_ge (tgt := 115) C dX6_submit_96 (by decide) (by omega) (by omega) (fun c_96 => ?_) (fun c_96 => ?_)
  · exact K i hb (Or.inl (by omega))
  · have hf := hF.2.2 i (by omega)
    refine x_aload_n C dX6_submit_99 rfl rfl ?_
    refine x_get C (Cn := RX6) (T := TX6) (N := 33) (ci := 6) 12 dX6_submit_100 m_w_6 m_f_RX6_35 rfl (by decide) rfl rfl ?_
    refine x_iload C dX6_submit_103 rfl ?_
    refine x_iald C dX6_submit_105 rfl (by omega) (by omega) ?_
    rw [Int.toNat_natCast]
    refine x_if_lt (tgt := 115) C dX6_submit_106 (by decide) (by omega) (fun c_106 => ?_) (fun c_106 => ?_)
    · exact K i hb (Or.inr ⟨by omega, c_106⟩)
    · refine x_iinc C (lv' := [(6, _), (5, _), (0, _), (1, _), (2, _), (3, _), (4, _)]) dX6_submit_109 rfl (by decide) rfl ?_
      refine x_goto (tgt := 90) C dX6_submit_112 (by decide) ?_
      rw [show (i : Int) + 1 = ((i + 1 : Nat) : Int) by omega]
      exact ih (i + 1) (by omega) (by omega) (fun k hk => if q : k < i then hb k q else by rw [show k = i by omega]; exact c_106)
set_option maxHeartbeats 4000000 in
set_option maxRecDepth 100000 in
theorem rp_sub127 {p : Program} {l : Launch} {e : Env} {R : Room} {s : State} {m : MethodId} {args : Array Value} {below : List Frame} {meth : Method} {c : Code} {D : va_G} {ad : Nat → Nat} {Q : State → Prop} (C : Fx p s m args meth c D ad cX6_submit 13 (some .int) yX6_submit.cls tb) (ρ : St) (op mi : Int) (an bn j : Nat) (hj : j < 12) (p5 : Int) (h5 : (op = 3 ∧ p5 = 1) ∨ (op ≠ 3 ∧ p5 = 0)) (hop : 0 ≤ op ∧ op ≤ 3) (K : X p l e R s m args below meth c D ad 13 Q (rc D ad (sb1 ρ j op an bn (if op = 3 then mi else -1))) 193 [(6, vi (j : Int)), (5, vi p5), (0, .ref (ad 0)), (1, vi op), (2, vi (an : Int)), (3, vi (bn : Int)), (4, vi mi)] []) : X p l e R s m args below meth c D ad 13 Q (rc D ad ρ) 127 [(6, vi (j : Int)), (5, vi p5), (0, .ref (ad 0)), (1, vi op), (2, vi (an : Int)), (3, vi (bn : Int)), (4, vi mi)] [] := by
  refine x_aload_n C dX6_submit_127 rfl rfl ?_
  refine x_get C (Cn := RX6) (T := TX6) (N := 33) (ci := 6) 12 dX6_submit_128 m_w_6 m_f_RX6_35 rfl (by decide) rfl rfl ?_
  refine x_iload C dX6_submit_131 rfl ?_
  refine x_iconst C dX6_submit_133 ?_
  refine r_ast C dX6_submit_134 (fun _ => rfl) (by omega) (by omega) ?_
  refine x_aload_n C dX6_submit_135 rfl rfl ?_
  refine x_get C (Cn := RX6) (T := TX6) (N := 33) (ci := 6) 13 dX6_submit_136 m_w_6 m_f_RX6_38 rfl (by decide) rfl rfl ?_
  refine x_iload C dX6_submit_139 rfl ?_
  refine x_iload_n C dX6_submit_141 rfl rfl ?_
  refine r_ast C dX6_submit_142 (fun _ => rfl) (by omega) (by omega) ?_
  refine x_aload_n C dX6_submit_143 rfl rfl ?_
  refine x_get C (Cn := RX6) (T := TX6) (N := 33) (ci := 6) 14 dX6_submit_144 m_w_6 m_f_RX6_41 rfl (by decide) rfl rfl ?_
  refine x_iload C dX6_submit_147 rfl ?_
  refine x_iload_n C dX6_submit_149 rfl rfl ?_
  refine r_ast C dX6_submit_150 (fun _ => rfl) (by omega) (by omega) ?_
  refine x_aload_n C dX6_submit_151 rfl rfl ?_
  refine x_get C (Cn := RX6) (T := TX6) (N := 33) (ci := 6) 15 dX6_submit_152 m_w_6 m_f_RX6_44 rfl (by decide) rfl rfl ?_
  refine x_iload C dX6_submit_155 rfl ?_
  refine x_iload_n C dX6_submit_157 rfl rfl ?_
  refine r_ast C dX6_submit_158 (fun _ => rfl) (by omega) (by omega) ?_
  refine x_aload_n C dX6_submit_159 rfl rfl ?_
  refine x_get C (Cn := RX6) (T := TX6) (N := 33) (ci := 6) 16 dX6_submit_160 m_w_6 m_f_RX6_47 rfl (by decide) rfl rfl ?_
  refine x_iload C dX6_submit_163 rfl ?_
  refine x_iload C dX6_submit_165 rfl ?_
  refine x_if_eq (tgt := 175) C dX6_submit_167 (by decide) (by omega) (fun c_167 => ?_) (fun c_167 => ?_)
  · rw [if_neg (by omega)] at K
    refine x_iconst C dX6_submit_175 ?_
    refine r_ast C dX6_submit_176 (fun _ => rfl) (by omega) (by omega) ?_
    refine x_aload_n C dX6_submit_177 rfl rfl ?_
    refine x_get C (Cn := RX6) (T := TX6) (N := 33) (ci := 6) 18 dX6_submit_178 m_w_6 m_f_RX6_54 rfl (by decide) rfl rfl ?_
    refine x_iload C dX6_submit_181 rfl ?_
    refine x_iconst C dX6_submit_183 ?_
    refine r_ast C dX6_submit_184 (fun _ => rfl) (by omega) (by omega) ?_
    refine x_aload_n C dX6_submit_185 rfl rfl ?_
    refine x_get C (Cn := RX6) (T := TX6) (N := 33) (ci := 6) 20 dX6_submit_186 m_w_6 m_f_RX6_60 rfl (by decide) rfl rfl ?_
    refine x_iload C dX6_submit_189 rfl ?_
    refine x_iconst C dX6_submit_191 ?_
    refine r_ast C dX6_submit_192 (fun _ => rfl) (by omega) (by omega) ?_
    exact K
  · rw [if_pos (by omega)] at K
    refine x_iload C dX6_submit_170 rfl ?_
    refine x_goto (tgt := 176) C dX6_submit_172 (by decide) ?_
    refine r_ast C dX6_submit_176 (fun _ => rfl) (by omega) (by omega) ?_
    refine x_aload_n C dX6_submit_177 rfl rfl ?_
    refine x_get C (Cn := RX6) (T := TX6) (N := 33) (ci := 6) 18 dX6_submit_178 m_w_6 m_f_RX6_54 rfl (by decide) rfl rfl ?_
    refine x_iload C dX6_submit_181 rfl ?_
    refine x_iconst C dX6_submit_183 ?_
    refine r_ast C dX6_submit_184 (fun _ => rfl) (by omega) (by omega) ?_
    refine x_aload_n C dX6_submit_185 rfl rfl ?_
    refine x_get C (Cn := RX6) (T := TX6) (N := 33) (ci := 6) 20 dX6_submit_186 m_w_6 m_f_RX6_60 rfl (by decide) rfl rfl ?_
    refine x_iload C dX6_submit_189 rfl ?_
    refine x_iconst C dX6_submit_191 ?_
    refine r_ast C dX6_submit_192 (fun _ => rfl) (by omega) (by omega) ?_
    exact K
set_option maxHeartbeats 4000000 in
set_option maxRecDepth 100000 in
theorem rp_sub193 {p : Program} {l : Launch} {e : Env} {R : Room} {s : State} {m : MethodId} {args : Array Value} {below : List Frame} {meth : Method} {c : Code} {D : va_G} {ad : Nat → Nat} {Q : State → Prop} (C : Fx p s m args meth c D ad cX6_submit 13 (some .int) yX6_submit.cls tb) (ρ : St) (op mi : Int) (an bn mn j sa sb sm : Nat) (hlt : an < 24 ∧ bn < 24 ∧ mn < 24 ∧ sa ≤ 2048 ∧ sb ≤ 2048 ∧ sm ≤ 2048) (p5 : Int) (h5 : (op = 3 ∧ p5 = 1) ∨ (op ≠ 3 ∧ p5 = 0)) (hop : 0 ≤ op ∧ op ≤ 3) (hm : op = 3 → mi = mn ∧ ρ 7 mn = sm) (hm0 : op ≠ 3 → sm = 0) (ea : ρ 7 an = sa) (eb : ρ 7 bn = sb) (K : X p l e R s m args below meth c D ad 13 Q (rc D ad ρ) 230 [(11, vl (sm : Int)), (9, vl (sb : Int)), (7, vl (sa : Int)), (6, vi (j : Int)), (5, vi p5), (0, .ref (ad 0)), (1, vi op), (2, vi (an : Int)), (3, vi (bn : Int)), (4, vi mi)] []) : X p l e R s m args below meth c D ad 13 Q (rc D ad ρ) 193 [(6, vi (j : Int)), (5, vi p5), (0, .ref (ad 0)), (1, vi op), (2, vi (an : Int)), (3, vi (bn : Int)), (4, vi mi)] [] := by
  refine x_aload_n C dX6_submit_193 rfl rfl ?_
  refine x_get C (Cn := RX6) (T := TX6) (N := 33) (ci := 6) 7 dX6_submit_194 m_w_6 m_f_RX6_20 rfl (by decide) rfl rfl ?_
  refine x_iload_n C dX6_submit_197 rfl rfl ?_
  refine x_iald C dX6_submit_198 rfl (by omega) (by omega) ?_
  rw [Int.toNat_natCast, ea]
  refine x_i2l C dX6_submit_199 (by omega) ?_
  refine x_lstore C (lv' := [(7, _), (6, _), (5, _), (0, _), (1, _), (2, _), (3, _), (4, _)]) dX6_submit_200 (by decide) rfl ?_
  refine x_aload_n C dX6_submit_202 rfl rfl ?_
  refine x_get C (Cn := RX6) (T := TX6) (N := 33) (ci := 6) 7 dX6_submit_203 m_w_6 m_f_RX6_20 rfl (by decide) rfl rfl ?_
  refine x_iload_n C dX6_submit_206 rfl rfl ?_
  refine x_iald C dX6_submit_207 rfl (by omega) (by omega) ?_
  rw [Int.toNat_natCast, eb]
  refine x_i2l C dX6_submit_208 (by omega) ?_
  refine x_lstore C (lv' := [(9, _), (7, _), (6, _), (5, _), (0, _), (1, _), (2, _), (3, _), (4, _)]) dX6_submit_209 (by decide) rfl ?_
  refine x_iload C dX6_submit_211 rfl ?_
  refine x_if_eq (tgt := 227) C dX6_submit_213 (by decide) (by omega) (fun c_213 => ?_) (fun c_213 => ?_)
  · have es := hm0 (by omega)
    subst es
    refine x_lconst0 C dX6_submit_227 ?_
    refine x_lstore C (lv' := [(11, _), (9, _), (7, _), (6, _), (5, _), (0, _), (1, _), (2, _), (3, _), (4, _)]) dX6_submit_228 (by decide) rfl ?_
    exact K
  · obtain ⟨em, es⟩ := hm (by omega)
    subst em
    refine x_aload_n C dX6_submit_216 rfl rfl ?_
    refine x_get C (Cn := RX6) (T := TX6) (N := 33) (ci := 6) 7 dX6_submit_217 m_w_6 m_f_RX6_20 rfl (by decide) rfl rfl ?_
    refine x_iload C dX6_submit_220 rfl ?_
    refine x_iald C dX6_submit_222 rfl (by omega) (by omega) ?_
    rw [Int.toNat_natCast, es]
    refine x_i2l C dX6_submit_223 (by omega) ?_
    refine x_goto (tgt := 228) C dX6_submit_224 (by decide) ?_
    refine x_lstore C (lv' := [(11, _), (9, _), (7, _), (6, _), (5, _), (0, _), (1, _), (2, _), (3, _), (4, _)]) dX6_submit_228 (by decide) rfl ?_
    exact K
set_option maxHeartbeats 4000000 in
set_option maxRecDepth 100000 in
theorem rp_sub230 {p : Program} {l : Launch} {e : Env} {R : Room} {s : State} {m : MethodId} {args : Array Value} {below : List Frame} {meth : Method} {c : Code} {D : va_G} {ad : Nat → Nat} {Q : State → Prop} (C : Fx p s m args meth c D ad cX6_submit 13 (some .int) yX6_submit.cls tb) (ρ : St) (op mi : Int) (an bn j sa sb sm : Nat) (hj : j < 12) (p5 : Int) (hop : 0 ≤ op ∧ op ≤ 3) (K : ∀ lv, lk 6 lv = some (vi (j : Int)) → lk 5 lv = some (vi p5) → lk 0 lv = some (.ref (ad 0)) → lk 2 lv = some (vi (an : Int)) → lk 3 lv = some (vi (bn : Int)) → lk 4 lv = some (vi mi) → X p l e R s m args below meth c D ad 13 Q (rc D ad (up ρ 17 j (plW op sa sb sm))) 313 lv []) : X p l e R s m args below meth c D ad 13 Q (rc D ad ρ) 230 [(11, vl (sm : Int)), (9, vl (sb : Int)), (7, vl (sa : Int)), (6, vi (j : Int)), (5, vi p5), (0, .ref (ad 0)), (1, vi op), (2, vi (an : Int)), (3, vi (bn : Int)), (4, vi mi)] [] := by
  refine x_aload_n C dX6_submit_230 rfl rfl ?_
  refine x_get C (Cn := RX6) (T := TX6) (N := 33) (ci := 6) 17 dX6_submit_231 m_w_6 m_f_RX6_50 rfl (by decide) rfl rfl ?_
  refine x_iload C dX6_submit_234 rfl ?_
  refine x_iload_n C dX6_submit_236 rfl rfl ?_
  refine x_if_ne (tgt := 248) C dX6_submit_237 (by decide) (by omega) (fun c_237 => ?_) (fun c_237 => ?_)
  · refine x_iload_n C dX6_submit_248 rfl rfl ?_
    refine x_iconst C dX6_submit_249 ?_
    refine x_icmp_ne (tgt := 267) C dX6_submit_250 (by decide) (by omega) (by omega) (fun c_250 => ?_) (fun c_250 => ?_)
    · refine x_iload_n C dX6_submit_267 rfl rfl ?_
      refine x_iconst C dX6_submit_268 ?_
      refine x_icmp_ne (tgt := 290) C dX6_submit_269 (by decide) (by omega) (by omega) (fun c_269 => ?_) (fun c_269 => ?_)
      · refine x_ldc2 C (z := 31) dX6_submit_290 (C.2.2.2.2.1 _ m_k_RX6_149) (by decide) ?_
        refine x_lload C dX6_submit_293 rfl ?_
        refine x_lmul C dX6_submit_295 ?_
        refine x_lload C dX6_submit_296 rfl ?_
        refine x_lmul C dX6_submit_298 ?_
        refine x_ldc2 C (z := 1922) dX6_submit_299 (C.2.2.2.2.1 _ m_k_RX6_151) (by decide) ?_
        refine x_lload C dX6_submit_302 rfl ?_
        refine x_lmul C dX6_submit_304 ?_
        refine x_lload C dX6_submit_305 rfl ?_
        refine x_lmul C dX6_submit_307 ?_
        refine x_lload C dX6_submit_308 rfl ?_
        refine x_lmul C dX6_submit_310 ?_
        refine x_ladd C dX6_submit_311 ?_
        refine r_astl C dX6_submit_312 (fun _ => rfl) (by omega) (by omega) ?_
        rw [Int.toNat_natCast]
        refine X.eqh (congrArg (fun w => rc D ad (up ρ 17 j w)) ?_) (K _ rfl rfl rfl rfl rfl rfl)
        unfold plW
        first | rw [if_pos (by omega)] | rw [if_neg (by omega), if_pos (by omega)] | rw [if_neg (by omega), if_neg (by omega), if_pos (by omega)] | rw [if_neg (by omega), if_neg (by omega), if_neg (by omega)]
      · refine x_ldc2 C (z := 31) dX6_submit_272 (C.2.2.2.2.1 _ m_k_RX6_149) (by decide) ?_
        refine x_lload C dX6_submit_275 rfl ?_
        refine x_lload C dX6_submit_277 rfl ?_
        refine x_ladd C dX6_submit_279 ?_
        refine x_lmul C dX6_submit_280 ?_
        refine x_lload C dX6_submit_281 rfl ?_
        refine x_lload C dX6_submit_283 rfl ?_
        refine x_ladd C dX6_submit_285 ?_
        refine x_lmul C dX6_submit_286 ?_
        refine x_goto (tgt := 312) C dX6_submit_287 (by decide) ?_
        refine r_astl C dX6_submit_312 (fun _ => rfl) (by omega) (by omega) ?_
        rw [Int.toNat_natCast]
        refine X.eqh (congrArg (fun w => rc D ad (up ρ 17 j w)) ?_) (K _ rfl rfl rfl rfl rfl rfl)
        unfold plW
        first | rw [if_pos (by omega)] | rw [if_neg (by omega), if_pos (by omega)] | rw [if_neg (by omega), if_neg (by omega), if_pos (by omega)] | rw [if_neg (by omega), if_neg (by omega), if_neg (by omega)]
    · refine x_ldc2 C (z := 31) dX6_submit_253 (C.2.2.2.2.1 _ m_k_RX6_149) (by decide) ?_
      refine x_lload C dX6_submit_256 rfl ?_
      refine x_lmul C dX6_submit_258 ?_
      refine x_lload C dX6_submit_259 rfl ?_
      refine x_lconst1 C dX6_submit_261 ?_
      refine x_ladd C dX6_submit_262 ?_
      refine x_lmul C dX6_submit_263 ?_
      refine x_goto (tgt := 312) C dX6_submit_264 (by decide) ?_
      refine r_astl C dX6_submit_312 (fun _ => rfl) (by omega) (by omega) ?_
      rw [Int.toNat_natCast]
      refine X.eqh (congrArg (fun w => rc D ad (up ρ 17 j w)) ?_) (K _ rfl rfl rfl rfl rfl rfl)
      unfold plW
      first | rw [if_pos (by omega)] | rw [if_neg (by omega), if_pos (by omega)] | rw [if_neg (by omega), if_neg (by omega), if_pos (by omega)] | rw [if_neg (by omega), if_neg (by omega), if_neg (by omega)]
  · refine x_lload C dX6_submit_240 rfl ?_
    refine x_lload C dX6_submit_242 rfl ?_
    refine x_lmul C dX6_submit_244 ?_
    refine x_goto (tgt := 312) C dX6_submit_245 (by decide) ?_
    refine r_astl C dX6_submit_312 (fun _ => rfl) (by omega) (by omega) ?_
    rw [Int.toNat_natCast]
    refine X.eqh (congrArg (fun w => rc D ad (up ρ 17 j w)) ?_) (K _ rfl rfl rfl rfl rfl rfl)
    unfold plW
    first | rw [if_pos (by omega)] | rw [if_neg (by omega), if_pos (by omega)] | rw [if_neg (by omega), if_neg (by omega), if_pos (by omega)] | rw [if_neg (by omega), if_neg (by omega), if_neg (by omega)]
set_option maxHeartbeats 4000000 in
set_option maxRecDepth 100000 in
theorem rp_sub313 {p : Program} {l : Launch} {e : Env} {R : Room} {s : State} {m : MethodId} {args : Array Value} {below : List Frame} {meth : Method} {c : Code} {D : va_G} {ad : Nat → Nat} {Q : State → Prop} (C : Fx p s m args meth c D ad cX6_submit 13 (some .int) yX6_submit.cls tb) (ρ : St) (op mi : Int) (an bn mn j : Nat) (hlt : an < 24 ∧ bn < 24 ∧ mn < 24) (p5 : Int) (h5 : (op = 3 ∧ p5 = 1) ∨ (op ≠ 3 ∧ p5 = 0)) (hop : 0 ≤ op ∧ op ≤ 3) (hm : op = 3 → mi = mn) (K : ∀ lv, lk 6 lv = some (vi (j : Int)) → lk 0 lv = some (.ref (ad 0)) → X p l e R s m args below meth c D ad 13 Q (rc D ad (sb2 ρ op an bn mn)) 349 lv []) (lv : List (Nat × Value)) (l6 : lk 6 lv = some (vi (j : Int))) (l5 : lk 5 lv = some (vi p5)) (l0 : lk 0 lv = some (.ref (ad 0))) (l2 : lk 2 lv = some (vi (an : Int))) (l3 : lk 3 lv = some (vi (bn : Int))) (l4 : lk 4 lv = some (vi mi)) : X p l e R s m args below meth c D ad 13 Q (rc D ad ρ) 313 lv [] := by
  refine x_aload_n C dX6_submit_313 rfl l0 ?_
  refine x_get C (Cn := RX6) (T := TX6) (N := 33) (ci := 6) 10 dX6_submit_314 m_w_6 m_f_RX6_29 rfl (by decide) rfl rfl ?_
  refine x_iload_n C dX6_submit_317 rfl l2 ?_
  refine x_dup2 C dX6_submit_318 rfl rfl ?_
  refine x_iald C dX6_submit_319 rfl (by omega) (by omega) ?_
  rw [Int.toNat_natCast]
  refine x_iconst C dX6_submit_320 ?_
  refine x_iadd C dX6_submit_321 ?_
  refine r_ast C dX6_submit_322 (fun _ => rfl) (by omega) (by omega) ?_
  rw [Int.toNat_natCast]
  refine x_aload_n C dX6_submit_323 rfl l0 ?_
  refine x_get C (Cn := RX6) (T := TX6) (N := 33) (ci := 6) 10 dX6_submit_324 m_w_6 m_f_RX6_29 rfl (by decide) rfl rfl ?_
  refine x_iload_n C dX6_submit_327 rfl l3 ?_
  refine x_dup2 C dX6_submit_328 rfl rfl ?_
  refine x_iald C dX6_submit_329 rfl (by omega) (by omega) ?_
  rw [Int.toNat_natCast]
  refine x_iconst C dX6_submit_330 ?_
  refine x_iadd C dX6_submit_331 ?_
  refine r_ast C dX6_submit_332 (fun _ => rfl) (by omega) (by omega) ?_
  rw [Int.toNat_natCast]
  refine x_iload C dX6_submit_333 l5 ?_
  refine x_if_eq (tgt := 349) C dX6_submit_335 (by decide) (by omega) (fun c_335 => ?_) (fun c_335 => ?_)
  · first | (rw [sb2, if_neg (by omega)] at K; exact K lv l6 l0) | (rw [sb2, if_pos (by omega)] at K; exact K lv l6 l0)
  · obtain rfl := hm (by omega)
    refine x_aload_n C dX6_submit_338 rfl l0 ?_
    refine x_get C (Cn := RX6) (T := TX6) (N := 33) (ci := 6) 10 dX6_submit_339 m_w_6 m_f_RX6_29 rfl (by decide) rfl rfl ?_
    refine x_iload C dX6_submit_342 l4 ?_
    refine x_dup2 C dX6_submit_344 rfl rfl ?_
    refine x_iald C dX6_submit_345 rfl (by omega) (by omega) ?_
    rw [Int.toNat_natCast]
    refine x_iconst C dX6_submit_346 ?_
    refine x_iadd C dX6_submit_347 ?_
    refine r_ast C dX6_submit_348 (fun _ => rfl) (by omega) (by omega) ?_
    rw [Int.toNat_natCast]
    first | (rw [sb2, if_neg (by omega)] at K; exact K lv l6 l0) | (rw [sb2, if_pos (by omega)] at K; exact K lv l6 l0)
set_option maxHeartbeats 4000000 in
set_option maxRecDepth 100000 in
theorem rp_sub349 {p : Program} {l : Launch} {e : Env} {R : Room} {s : State} {m : MethodId} {args : Array Value} {below : List Frame} {meth : Method} {c : Code} {D : va_G} {ad : Nat → Nat} {Q : State → Prop} (C : Fx p s m args meth c D ad cX6_submit 13 (some .int) yX6_submit.cls tb) (ρ : St) (j : Nat) (hq : 0 ≤ ρ 0 22 ∧ ρ 0 22 ≤ 12) (K : ∀ lv, X p l e R s m args below meth c D ad 13 Q (rc D ad (up (up ρ 21 (ρ 0 22).toNat j) 0 22 (ρ 0 22 + 1))) 372 lv [vi (j : Int)]) (lv : List (Nat × Value)) (l6 : lk 6 lv = some (vi (j : Int))) (l0 : lk 0 lv = some (.ref (ad 0))) : X p l e R s m args below meth c D ad 13 Q (rc D ad ρ) 349 lv [] := by
  refine x_aload_n C dX6_submit_349 rfl l0 ?_
  refine x_get C (Cn := RX6) (T := TX6) (N := 33) (ci := 6) 21 dX6_submit_350 m_w_6 m_f_RX6_63 rfl (by decide) rfl rfl ?_
  refine x_aload_n C dX6_submit_353 rfl l0 ?_
  refine x_get C (Cn := RX6) (T := TX6) (N := 33) (ci := 6) 22 dX6_submit_354 m_w_6 m_f_RX6_101 rfl (by decide) rfl rfl ?_
  refine x_iload C dX6_submit_357 l6 ?_
  refine r_ast C dX6_submit_359 (fun _ => rfl) (by omega) (by omega) ?_
  refine x_aload_n C dX6_submit_360 rfl l0 ?_
  refine x_dup C dX6_submit_361 rfl ?_
  refine x_get C (Cn := RX6) (T := TX6) (N := 33) (ci := 6) 22 dX6_submit_362 m_w_6 m_f_RX6_101 rfl (by decide) rfl rfl ?_
  refine x_iconst C dX6_submit_365 ?_
  refine x_iadd C dX6_submit_366 ?_
  refine r_put C 22 (by decide) (by decide) dX6_submit_367 m_f_RX6_101 rfl (by decide +kernel) ?_
  refine x_iload C dX6_submit_370 l6 ?_
  exact K lv
set_option maxHeartbeats 4000000 in
set_option maxRecDepth 100000 in
theorem rp_sub57 {p : Program} {l : Launch} {e : Env} {R : Room} {s : State} {m : MethodId} {args : Array Value} {below : List Frame} {meth : Method} {c : Code} {D : va_G} {ad : Nat → Nat} {Q : State → Prop} (C : Fx p s m args meth c D ad cX6_submit 13 (some .int) yX6_submit.cls tb) {g : Nat × Nat × Nat × Nat} (hg : 3 ≤ g.1 ∧ g.1 ≤ 11 ∧ 8 ≤ g.2.1 ∧ g.2.1 ≤ 2048 ∧ 1 ≤ g.2.2.1 ∧ g.2.2.1 ≤ 24 ∧ 1 ≤ g.2.2.2 ∧ g.2.2.2 ≤ 12) (hR : 1 ≤ R.frames ∧ 40 ≤ R.locals) (ρ : St) (hL : LMr ρ) (op mi : Int) (an bn Ab zb : Nat) (hbn : bn < 24) (hAb : ρ 8 bn = Ab) (hzb : ρ 7 bn = zb) (hb : Ab + zb ≤ 2048) (hm : HMr ρ op mi) (p5 : Int) (h5 : (op = 3 ∧ p5 = 1) ∨ (op ≠ 3 ∧ p5 = 0)) (hop : 0 ≤ op ∧ op ≤ 3) (K1 : ((op = 1 ∧ rZer ρ bn) ∨ (op = 3 ∧ rZer ρ mi)) → ∀ lv, X p l e R s m args below meth c D ad 13 Q (rc D ad ρ) 84 lv []) (K2 : ¬ ((op = 1 ∧ rZer ρ bn) ∨ (op = 3 ∧ rZer ρ mi)) → X p l e R s m args below meth c D ad 13 Q (rc D ad ρ) 87 [(5, vi p5), (0, .ref (ad 0)), (1, vi op), (2, vi (an : Int)), (3, vi (bn : Int)), (4, vi mi)] []) : X p l e R s m args below meth c D ad 13 Q (rc D ad ρ) 57 [(5, vi p5), (0, .ref (ad 0)), (1, vi op), (2, vi (an : Int)), (3, vi (bn : Int)), (4, vi mi)] [] := by
  refine x_iload_n C dX6_submit_57 rfl rfl ?_
  refine x_iconst C dX6_submit_58 ?_
  refine x_icmp_ne (tgt := 70) C dX6_submit_59 (by decide) (by omega) (by omega) (fun c_59 => ?_) (fun c_59 => ?_)
  · refine x_iload C dX6_submit_70 rfl ?_
    refine x_if_eq (tgt := 87) C dX6_submit_72 (by decide) (by omega) (fun c_72 => ?_) (fun c_72 => ?_)
    · refine K2 (fun q => ?_)
      rcases q with ⟨q1, q2⟩ | ⟨q1, q2⟩
      · first | omega | (have := sg_u hr (rz_of q2 hAb hzb); omega)
      · omega
    · obtain ⟨mn, A, z, rfl, hmn, hA, hz, hAz⟩ := hm (by omega)
      refine x_aload_n C dX6_submit_75 rfl rfl ?_
      refine x_iload C dX6_submit_76 rfl ?_
      refine x_callV C (ci := 6) (nn := 1) (r_length ρ hL mn A z hmn hA hz hAz) g_RX6_146 rfl (by decide +kernel) ⟨by first | decide | omega, by first | decide | omega⟩ rfl rfl rfl rfl rfl (Nat.le_of_ble_eq_true rfl) dX6_submit_78 (fun v h1 hp => ?_)
      obtain ⟨ρ1, rfl, rfl, r3, rfl, hr3⟩ := hp
      have hrl3 := hr3.1
      refine x_if_ne (tgt := 87) C dX6_submit_81 (by decide) (by omega) (fun c_81 => ?_) (fun c_81 => ?_)
      · refine K2 (fun q => ?_)
        rcases q with ⟨q1, q2⟩ | ⟨q1, q2⟩
        · omega
        · have := sg_u hr3 (rz_of q2 hA hz); omega
      · obtain rfl : r3 = 0 := by omega
        exact K1 (Or.inr ⟨by omega, A, z, by rw [Int.toNat_natCast]; exact hA, by rw [Int.toNat_natCast]; exact hz, hr3⟩) _
  · refine x_aload_n C dX6_submit_62 rfl rfl ?_
    refine x_iload_n C dX6_submit_63 rfl rfl ?_
    refine x_callV C (ci := 6) (nn := 1) (r_length ρ hL bn Ab zb hbn hAb hzb hb) g_RX6_146 rfl (by decide +kernel) ⟨by first | decide | omega, by first | decide | omega⟩ rfl rfl rfl rfl rfl (Nat.le_of_ble_eq_true rfl) dX6_submit_64 (fun v h1 hp => ?_)
    obtain ⟨ρ1, rfl, rfl, r, rfl, hr⟩ := hp
    have hrl := hr.1
    refine x_if_eq (tgt := 84) C dX6_submit_67 (by decide) (by omega) (fun c_67 => ?_) (fun c_67 => ?_)
    · obtain rfl : r = 0 := by omega
      exact K1 (Or.inl ⟨by omega, Ab, zb, by rw [Int.toNat_natCast]; exact hAb, by rw [Int.toNat_natCast]; exact hzb, hr⟩) _
    · refine x_iload C dX6_submit_70 rfl ?_
      refine x_if_eq (tgt := 87) C dX6_submit_72 (by decide) (by omega) (fun c_72 => ?_) (fun c_72 => ?_)
      · refine K2 (fun q => ?_)
        rcases q with ⟨q1, q2⟩ | ⟨q1, q2⟩
        · first | omega | (have := sg_u hr (rz_of q2 hAb hzb); omega)
        · omega
      · obtain ⟨mn, A, z, rfl, hmn, hA, hz, hAz⟩ := hm (by omega)
        refine x_aload_n C dX6_submit_75 rfl rfl ?_
        refine x_iload C dX6_submit_76 rfl ?_
        refine x_callV C (ci := 6) (nn := 1) (r_length ρ hL mn A z hmn hA hz hAz) g_RX6_146 rfl (by decide +kernel) ⟨by first | decide | omega, by first | decide | omega⟩ rfl rfl rfl rfl rfl (Nat.le_of_ble_eq_true rfl) dX6_submit_78 (fun v h1 hp => ?_)
        obtain ⟨ρ1, rfl, rfl, r3, rfl, hr3⟩ := hp
        have hrl3 := hr3.1
        refine x_if_ne (tgt := 87) C dX6_submit_81 (by decide) (by omega) (fun c_81 => ?_) (fun c_81 => ?_)
        · refine K2 (fun q => ?_)
          rcases q with ⟨q1, q2⟩ | ⟨q1, q2⟩
          · omega
          · have := sg_u hr3 (rz_of q2 hA hz); omega
        · obtain rfl : r3 = 0 := by omega
          exact K1 (Or.inr ⟨by omega, A, z, by rw [Int.toNat_natCast]; exact hA, by rw [Int.toNat_natCast]; exact hz, hr3⟩) _
set_option maxHeartbeats 4000000 in
set_option maxRecDepth 100000 in
theorem rp_sub24 {p : Program} {l : Launch} {e : Env} {R : Room} {s : State} {m : MethodId} {args : Array Value} {below : List Frame} {meth : Method} {c : Code} {D : va_G} {ad : Nat → Nat} {Q : State → Prop} (C : Fx p s m args meth c D ad cX6_submit 13 (some .int) yX6_submit.cls tb) {g : Nat × Nat × Nat × Nat} (hg : 3 ≤ g.1 ∧ g.1 ≤ 11 ∧ 8 ≤ g.2.1 ∧ g.2.1 ≤ 2048 ∧ 1 ≤ g.2.2.1 ∧ g.2.2.1 ≤ 24 ∧ 1 ≤ g.2.2.2 ∧ g.2.2.2 ≤ 12) (hR : 2 ≤ R.frames ∧ 80 ≤ R.locals) (ρ : St) (hs : RS g ρ) (hF : RF ρ) (op a b mi : Int) (rg_a : -2147483648 ≤ a ∧ a < 2147483648) (rg_b : -2147483648 ≤ b ∧ b < 2147483648) (rg_mi : -2147483648 ≤ mi ∧ mi < 2147483648) (p5 : Int) (h5 : (op = 3 ∧ p5 = 1) ∨ (op ≠ 3 ∧ p5 = 0)) (hop : 0 ≤ op ∧ op ≤ 3) (K1 : ¬ (rOp g ρ a ∧ rOp g ρ b ∧ (op = 3 → rOp g ρ mi)) → ∀ lv, X p l e R s m args below meth c D ad 13 Q (rc D ad ρ) 54 lv []) (K2 : (rOp g ρ a ∧ rOp g ρ b ∧ (op = 3 → rOp g ρ mi)) → X p l e R s m args below meth c D ad 13 Q (rc D ad ρ) 57 [(5, vi p5), (0, .ref (ad 0)), (1, vi op), (2, vi a), (3, vi b), (4, vi mi)] []) : X p l e R s m args below meth c D ad 13 Q (rc D ad ρ) 24 [(5, vi p5), (0, .ref (ad 0)), (1, vi op), (2, vi a), (3, vi b), (4, vi mi)] [] := by
  refine x_aload_n C dX6_submit_24 rfl rfl ?_
  refine x_iload_n C dX6_submit_25 rfl rfl ?_
  refine x_callV C (ci := 6) (nn := 1) (r_isOperand hg ρ hs hF a rg_a) g_RX6_143 rfl (by decide +kernel) ⟨by first | decide | omega, by first | decide | omega⟩ rfl rfl rfl rfl rfl (Nat.le_of_ble_eq_true rfl) dX6_submit_26 (fun v h1 hp => ?_)
  obtain ⟨ρ1, rfl, rfl, x, rfl, hx⟩ := hp
  have hxr : 0 ≤ x ∧ x ≤ 1 := by rcases hx with ⟨h, -⟩ | ⟨h, -⟩ <;> omega
  refine x_if_eq (tgt := 54) C dX6_submit_29 (by decide) (by omega) (fun c_29 => ?_) (fun c_29 => ?_)
  · rcases hx with ⟨h1, -⟩ | ⟨-, hN⟩
    · omega
    exact K1 (fun q => hN q.1) _
  · rcases hx with ⟨-, hNa⟩ | ⟨h0, -⟩
    rotate_left
    · exact absurd h0 c_29
    refine x_aload_n C dX6_submit_32 rfl rfl ?_
    refine x_iload_n C dX6_submit_33 rfl rfl ?_
    refine x_callV C (ci := 6) (nn := 1) (r_isOperand hg ρ hs hF b rg_b) g_RX6_143 rfl (by decide +kernel) ⟨by first | decide | omega, by first | decide | omega⟩ rfl rfl rfl rfl rfl (Nat.le_of_ble_eq_true rfl) dX6_submit_34 (fun v h1 hp => ?_)
    obtain ⟨ρ1, rfl, rfl, x, rfl, hx⟩ := hp
    have hxr : 0 ≤ x ∧ x ≤ 1 := by rcases hx with ⟨h, -⟩ | ⟨h, -⟩ <;> omega
    refine x_if_eq (tgt := 54) C dX6_submit_37 (by decide) (by omega) (fun c_37 => ?_) (fun c_37 => ?_)
    · rcases hx with ⟨h1, -⟩ | ⟨-, hN⟩
      · omega
      exact K1 (fun q => hN q.2.1) _
    · rcases hx with ⟨-, hNb⟩ | ⟨h0, -⟩
      rotate_left
      · exact absurd h0 c_37
      refine x_iload C dX6_submit_40 rfl ?_
      refine x_if_eq (tgt := 57) C dX6_submit_42 (by decide) (by omega) (fun c_42 => ?_) (fun c_42 => ?_)
      · exact K2 ⟨hNa, hNb, fun q => by omega⟩
      · refine x_aload_n C dX6_submit_45 rfl rfl ?_
        refine x_iload C dX6_submit_46 rfl ?_
        refine x_callV C (ci := 6) (nn := 1) (r_isOperand hg ρ hs hF mi rg_mi) g_RX6_143 rfl (by decide +kernel) ⟨by first | decide | omega, by first | decide | omega⟩ rfl rfl rfl rfl rfl (Nat.le_of_ble_eq_true rfl) dX6_submit_48 (fun v h1 hp => ?_)
        obtain ⟨ρ1, rfl, rfl, x, rfl, hx⟩ := hp
        have hxr : 0 ≤ x ∧ x ≤ 1 := by rcases hx with ⟨h, -⟩ | ⟨h, -⟩ <;> omega
        refine x_if_ne (tgt := 57) C dX6_submit_51 (by decide) (by omega) (fun c_51 => ?_) (fun c_51 => ?_)
        · rcases hx with ⟨-, hN⟩ | ⟨h0, -⟩
          rotate_left
          · exact absurd h0 c_51
          exact K2 ⟨hNa, hNb, fun _ => hN⟩
        · rcases hx with ⟨h1, -⟩ | ⟨-, hN⟩
          · omega
          exact K1 (fun q => hN (q.2.2 (by omega))) _
set_option maxHeartbeats 4000000 in
set_option maxRecDepth 100000 in
theorem r_submit {l : Launch} {D : va_G} {ad : Nat → Nat} {g : Nat × Nat × Nat × Nat} (hg : 3 ≤ g.1 ∧ g.1 ≤ 11 ∧ 8 ≤ g.2.1 ∧ g.2.1 ≤ 2048 ∧ 1 ≤ g.2.2.1 ∧ g.2.2.1 ≤ 24 ∧ 1 ≤ g.2.2.2 ∧ g.2.2.2 ≤ 12) (ρ : St) (hs : RS g ρ) (hF : RF ρ) (hU : RN_ ρ) (hL : LMr ρ) (hq : 0 ≤ ρ 0 22 ∧ ρ 0 22 ≤ 12) (op a b mi : Int) (rg_op : -2147483648 ≤ op ∧ op < 2147483648) (rg_a : -2147483648 ≤ a ∧ a < 2147483648) (rg_b : -2147483648 ≤ b ∧ b < 2147483648) (rg_mi : -2147483648 ≤ mi ∧ mi < 2147483648) : Rt l D ad yX6_submit (Cond.code yX6_submit cX6_submit 13 (some .int) :: tb) 2 80 [.ref (ad 0), vi op, vi a, vi b, vi mi] ρ (fun v ρ' => ∃ r : Int, v = some (vi r) ∧ rsP g ρ ρ' op a b mi r) := by
  refine ct_of (by decide) rfl (Nat.le_of_ble_eq_true rfl) ?_
  intro p e s m below meth c C
  change X _ _ _ _ _ _ _ _ _ _ _ _ _ _ _ _ [(0, .ref (ad 0)), (1, vi op), (2, vi a), (3, vi b), (4, vi mi)] _
  refine x_iload_n C dX6_submit_0 rfl rfl ?_
  refine x_if_lt (tgt := 9) C dX6_submit_1 (by decide) (by omega) (fun c_1 => ?_) (fun c_1 => ?_)
  · refine x_bipush C (z := (-5)) dX6_submit_9 (by decide) ?_
    exact x_iret C dX6_submit_11 ⟨_, rfl, _, rfl, Or.inl ⟨by omega, rfl, rfl⟩⟩
  · refine x_iload_n C dX6_submit_4 rfl rfl ?_
    refine x_iconst C dX6_submit_5 ?_
    refine x_icmp_le (tgt := 12) C dX6_submit_6 (by decide) (by omega) (by omega) (fun c_6 => ?_) (fun c_6 => ?_)
    · refine x_iload_n C dX6_submit_12 rfl rfl ?_
      refine x_iconst C dX6_submit_13 ?_
      refine x_icmp_ne (tgt := 21) C dX6_submit_14 (by decide) (by omega) (by omega) (fun c_14 => ?_) (fun c_14 => ?_)
      · refine x_iconst C dX6_submit_21 ?_
        refine x_istore C (lv' := [(5, _), (0, _), (1, _), (2, _), (3, _), (4, _)]) dX6_submit_22 (by decide) rfl ?_
        refine rp_sub24 C hg ⟨by decide, by decide⟩ ρ hs hF op a b mi rg_a rg_b rg_mi _ (by omega) (by omega) ?_ ?_
        · intro hn lv
          refine x_bipush C (z := -6) dX6_submit_54 (by decide) ?_
          exact x_iret C dX6_submit_56 ⟨_, rfl, _, rfl, Or.inr ⟨by omega, Or.inl ⟨hn, rfl, rfl⟩⟩⟩
        intro hO
        have hop : 0 ≤ op ∧ op ≤ 3 := by omega
        have hO0 := hO
        obtain ⟨⟨an, rfl, han, ha6, -⟩, ⟨bn, rfl, hbn, hb6, -⟩, hOm⟩ := hO
        obtain ⟨Aa, sa, hAa, hsa, hla, -⟩ := hU an (by omega) ha6
        obtain ⟨Ab, sb, hAb, hsb, hlb, -⟩ := hU bn (by omega) hb6
        have hm : HMr ρ op mi := by
          intro h3
          obtain ⟨mn, e1, e2, e3, -⟩ := hOm h3
          obtain ⟨A, z, e4, e5, e6, -⟩ := hU mn (by omega) e3
          exact ⟨mn, A, z, e1, by omega, e4, e5, e6⟩
        refine rp_sub57 C hg ⟨by decide, by decide⟩ ρ hL op mi an bn Ab sb (by omega) hAb hsb hlb hm _ (by omega) hop ?_ ?_
        · intro hz lv
          refine x_bipush C (z := -7) dX6_submit_84 (by decide) ?_
          exact x_iret C dX6_submit_86 ⟨_, rfl, _, rfl, Or.inr ⟨hop, Or.inr ⟨hO0, Or.inl ⟨hz, rfl, rfl⟩⟩⟩⟩
        intro hz
        refine x_iconst C dX6_submit_87 ?_
        refine x_istore C (lv' := [(6, _), (5, _), (0, _), (1, _), (2, _), (3, _), (4, _)]) dX6_submit_88 (by decide) rfl ?_
        refine rp_sub90 C hg ρ hs hF _ op mi an bn ?_ (g.2.2.2 + 1) 0 (by omega) (by omega) (fun k hk => by omega)
        intro j hl hj
        refine x_iload C dX6_submit_115 rfl ?_
        refine x_aload_n C dX6_submit_117 rfl rfl ?_
        refine x_get C (Cn := RX6) (T := TX6) (N := 33) (ci := 6) 1 dX6_submit_118 m_w_6 m_f_RX6_89 rfl (by decide) rfl rfl ?_
        rw [hs.2.1]
        refine x_icmp_ne (tgt := 127) C dX6_submit_121 (by decide) (by omega) (by omega) (fun c_121 => ?_) (fun c_121 => ?_)
        rotate_left
        · refine x_bipush C (z := -8) dX6_submit_124 (by decide) ?_
          refine x_iret C dX6_submit_126 ⟨_, rfl, _, rfl, Or.inr ⟨hop, Or.inr ⟨hO0, Or.inr ⟨hz, Or.inl ⟨?_, rfl, rfl⟩⟩⟩⟩⟩
          obtain rfl : j = g.2.2.2 := by omega
          exact hl
        have hj2 : j < g.2.2.2 ∧ ρ 12 j < 0 := by
          rcases hj with q | q
          · omega
          · exact q
        obtain ⟨mn, sm, hmn, hsm, hm1, hm0⟩ : ∃ mn sm : Nat, mn < 24 ∧ sm ≤ 2048 ∧ (op = 3 → mi = mn ∧ ρ 7 mn = sm) ∧ (op ≠ 3 → sm = 0) := by
          by_cases h3 : op = 3
          · obtain ⟨mn, A, z, e1, e2, e3, e4, e5⟩ := hm h3
            exact ⟨mn, z, e2, by omega, fun _ => ⟨e1, e4⟩, fun q => absurd h3 q⟩
          · exact ⟨0, 0, by omega, by omega, fun q => absurd q h3, fun _ => rfl⟩
        refine rp_sub127 C ρ op mi an bn j (by omega) _ (by omega) hop ?_
        refine rp_sub193 C _ op mi an bn mn j sa sb sm (by omega) _ (by omega) hop (fun q => ?_) hm0 ?_ ?_ ?_
        · simp only [sb1, up_n (show 7 ≠ 20 by decide), up_n (show 7 ≠ 18 by decide), up_n (show 7 ≠ 16 by decide), up_n (show 7 ≠ 15 by decide), up_n (show 7 ≠ 14 by decide), up_n (show 7 ≠ 13 by decide), up_n (show 7 ≠ 12 by decide)]; exact hm1 q
        · simp only [sb1, up_n (show 7 ≠ 20 by decide), up_n (show 7 ≠ 18 by decide), up_n (show 7 ≠ 16 by decide), up_n (show 7 ≠ 15 by decide), up_n (show 7 ≠ 14 by decide), up_n (show 7 ≠ 13 by decide), up_n (show 7 ≠ 12 by decide)]; exact hsa
        · simp only [sb1, up_n (show 7 ≠ 20 by decide), up_n (show 7 ≠ 18 by decide), up_n (show 7 ≠ 16 by decide), up_n (show 7 ≠ 15 by decide), up_n (show 7 ≠ 14 by decide), up_n (show 7 ≠ 13 by decide), up_n (show 7 ≠ 12 by decide)]; exact hsb
        refine rp_sub230 C _ op mi an bn j sa sb sm (by omega) _ hop ?_
        intro lv l6 l5 l0 l2 l3 l4
        refine rp_sub313 C _ op mi an bn mn j (by omega) _ (by omega) hop (fun q => (hm1 q).1) ?_ lv l6 l5 l0 l2 l3 l4
        intro lv1 k6 k0
        have e22 : sb2 (up (sb1 ρ j op an bn (if op = 3 then mi else -1)) 17 j (plW op sa sb sm)) op an bn mn 0 22 = ρ 0 22 := by
          unfold sb2
          split <;> simp only [upn, sb1, up_n (show 0 ≠ 10 by decide), up_n (show 0 ≠ 17 by decide), up_n (show 0 ≠ 20 by decide), up_n (show 0 ≠ 18 by decide), up_n (show 0 ≠ 16 by decide), up_n (show 0 ≠ 15 by decide), up_n (show 0 ≠ 14 by decide), up_n (show 0 ≠ 13 by decide), up_n (show 0 ≠ 12 by decide)]
        refine rp_sub349 C _ j (by rw [e22]; exact hq) ?_ lv1 k6 k0
        intro lv2
        rw [e22]
        exact x_iret C dX6_submit_372 ⟨_, rfl, _, rfl, Or.inr ⟨hop, Or.inr ⟨hO0, Or.inr ⟨hz, Or.inr ⟨j, ⟨hj2.1, hj2.2, hl⟩, rfl, an, bn, mn, sa, sb, sm, rfl, rfl, hm1, hm0, hsa, hsb, rfl⟩⟩⟩⟩⟩
      · refine x_iconst C dX6_submit_17 ?_
        refine x_goto (tgt := 22) C dX6_submit_18 (by decide) ?_
        refine x_istore C (lv' := [(5, _), (0, _), (1, _), (2, _), (3, _), (4, _)]) dX6_submit_22 (by decide) rfl ?_
        refine rp_sub24 C hg ⟨by decide, by decide⟩ ρ hs hF op a b mi rg_a rg_b rg_mi _ (by omega) (by omega) ?_ ?_
        · intro hn lv
          refine x_bipush C (z := -6) dX6_submit_54 (by decide) ?_
          exact x_iret C dX6_submit_56 ⟨_, rfl, _, rfl, Or.inr ⟨by omega, Or.inl ⟨hn, rfl, rfl⟩⟩⟩
        intro hO
        have hop : 0 ≤ op ∧ op ≤ 3 := by omega
        have hO0 := hO
        obtain ⟨⟨an, rfl, han, ha6, -⟩, ⟨bn, rfl, hbn, hb6, -⟩, hOm⟩ := hO
        obtain ⟨Aa, sa, hAa, hsa, hla, -⟩ := hU an (by omega) ha6
        obtain ⟨Ab, sb, hAb, hsb, hlb, -⟩ := hU bn (by omega) hb6
        have hm : HMr ρ op mi := by
          intro h3
          obtain ⟨mn, e1, e2, e3, -⟩ := hOm h3
          obtain ⟨A, z, e4, e5, e6, -⟩ := hU mn (by omega) e3
          exact ⟨mn, A, z, e1, by omega, e4, e5, e6⟩
        refine rp_sub57 C hg ⟨by decide, by decide⟩ ρ hL op mi an bn Ab sb (by omega) hAb hsb hlb hm _ (by omega) hop ?_ ?_
        · intro hz lv
          refine x_bipush C (z := -7) dX6_submit_84 (by decide) ?_
          exact x_iret C dX6_submit_86 ⟨_, rfl, _, rfl, Or.inr ⟨hop, Or.inr ⟨hO0, Or.inl ⟨hz, rfl, rfl⟩⟩⟩⟩
        intro hz
        refine x_iconst C dX6_submit_87 ?_
        refine x_istore C (lv' := [(6, _), (5, _), (0, _), (1, _), (2, _), (3, _), (4, _)]) dX6_submit_88 (by decide) rfl ?_
        refine rp_sub90 C hg ρ hs hF _ op mi an bn ?_ (g.2.2.2 + 1) 0 (by omega) (by omega) (fun k hk => by omega)
        intro j hl hj
        refine x_iload C dX6_submit_115 rfl ?_
        refine x_aload_n C dX6_submit_117 rfl rfl ?_
        refine x_get C (Cn := RX6) (T := TX6) (N := 33) (ci := 6) 1 dX6_submit_118 m_w_6 m_f_RX6_89 rfl (by decide) rfl rfl ?_
        rw [hs.2.1]
        refine x_icmp_ne (tgt := 127) C dX6_submit_121 (by decide) (by omega) (by omega) (fun c_121 => ?_) (fun c_121 => ?_)
        rotate_left
        · refine x_bipush C (z := -8) dX6_submit_124 (by decide) ?_
          refine x_iret C dX6_submit_126 ⟨_, rfl, _, rfl, Or.inr ⟨hop, Or.inr ⟨hO0, Or.inr ⟨hz, Or.inl ⟨?_, rfl, rfl⟩⟩⟩⟩⟩
          obtain rfl : j = g.2.2.2 := by omega
          exact hl
        have hj2 : j < g.2.2.2 ∧ ρ 12 j < 0 := by
          rcases hj with q | q
          · omega
          · exact q
        obtain ⟨mn, sm, hmn, hsm, hm1, hm0⟩ : ∃ mn sm : Nat, mn < 24 ∧ sm ≤ 2048 ∧ (op = 3 → mi = mn ∧ ρ 7 mn = sm) ∧ (op ≠ 3 → sm = 0) := by
          by_cases h3 : op = 3
          · obtain ⟨mn, A, z, e1, e2, e3, e4, e5⟩ := hm h3
            exact ⟨mn, z, e2, by omega, fun _ => ⟨e1, e4⟩, fun q => absurd h3 q⟩
          · exact ⟨0, 0, by omega, by omega, fun q => absurd q h3, fun _ => rfl⟩
        refine rp_sub127 C ρ op mi an bn j (by omega) _ (by omega) hop ?_
        refine rp_sub193 C _ op mi an bn mn j sa sb sm (by omega) _ (by omega) hop (fun q => ?_) hm0 ?_ ?_ ?_
        · simp only [sb1, up_n (show 7 ≠ 20 by decide), up_n (show 7 ≠ 18 by decide), up_n (show 7 ≠ 16 by decide), up_n (show 7 ≠ 15 by decide), up_n (show 7 ≠ 14 by decide), up_n (show 7 ≠ 13 by decide), up_n (show 7 ≠ 12 by decide)]; exact hm1 q
        · simp only [sb1, up_n (show 7 ≠ 20 by decide), up_n (show 7 ≠ 18 by decide), up_n (show 7 ≠ 16 by decide), up_n (show 7 ≠ 15 by decide), up_n (show 7 ≠ 14 by decide), up_n (show 7 ≠ 13 by decide), up_n (show 7 ≠ 12 by decide)]; exact hsa
        · simp only [sb1, up_n (show 7 ≠ 20 by decide), up_n (show 7 ≠ 18 by decide), up_n (show 7 ≠ 16 by decide), up_n (show 7 ≠ 15 by decide), up_n (show 7 ≠ 14 by decide), up_n (show 7 ≠ 13 by decide), up_n (show 7 ≠ 12 by decide)]; exact hsb
        refine rp_sub230 C _ op mi an bn j sa sb sm (by omega) _ hop ?_
        intro lv l6 l5 l0 l2 l3 l4
        refine rp_sub313 C _ op mi an bn mn j (by omega) _ (by omega) hop (fun q => (hm1 q).1) ?_ lv l6 l5 l0 l2 l3 l4
        intro lv1 k6 k0
        have e22 : sb2 (up (sb1 ρ j op an bn (if op = 3 then mi else -1)) 17 j (plW op sa sb sm)) op an bn mn 0 22 = ρ 0 22 := by
          unfold sb2
          split <;> simp only [upn, sb1, up_n (show 0 ≠ 10 by decide), up_n (show 0 ≠ 17 by decide), up_n (show 0 ≠ 20 by decide), up_n (show 0 ≠ 18 by decide), up_n (show 0 ≠ 16 by decide), up_n (show 0 ≠ 15 by decide), up_n (show 0 ≠ 14 by decide), up_n (show 0 ≠ 13 by decide), up_n (show 0 ≠ 12 by decide)]
        refine rp_sub349 C _ j (by rw [e22]; exact hq) ?_ lv1 k6 k0
        intro lv2
        rw [e22]
        exact x_iret C dX6_submit_372 ⟨_, rfl, _, rfl, Or.inr ⟨hop, Or.inr ⟨hO0, Or.inr ⟨hz, Or.inr ⟨j, ⟨hj2.1, hj2.2, hl⟩, rfl, an, bn, mn, sa, sb, sm, rfl, rfl, hm1, hm0, hsa, hsb, rfl⟩⟩⟩⟩⟩
    · refine x_bipush C (z := (-5)) dX6_submit_9 (by decide) ?_
      exact x_iret C dX6_submit_11 ⟨_, rfl, _, rfl, Or.inl ⟨by omega, rfl, rfl⟩⟩
