/-! THE LAW'S CALLS, case by case -/
theorem iI_31 (z : Int) : iI z &&& iI 31 = iI (z % 32) := by
  apply Int32.toBitVec_inj.mp
  apply BitVec.eq_of_toNat_eq
  rw [Int32.toBitVec_and, BitVec.toNat_and]
  show (BitVec.ofInt 32 z).toNat &&& (BitVec.ofInt 32 31).toNat = (BitVec.ofInt 32 (z % 32)).toNat
  rw [BitVec.toNat_ofInt, BitVec.toNat_ofInt, BitVec.toNat_ofInt, show ((31 : Int) % ((2 ^ 32 : Nat) : Int)).toNat = 2 ^ 5 - 1 from by decide, Nat.and_two_pow_sub_one_eq_mod]
  omega
set_option maxHeartbeats 4000000 in
set_option maxRecDepth 100000 in
theorem r_runO {l : Launch} {D : va_G} {ad : Nat → Nat} (n : Int) (hn : ¬ (0 ≤ n ∧ n ≤ 5000)) (ρ : St) (rg_n : -2147483648 ≤ n ∧ n < 2147483648) : Rt l D ad yX6_run (Cond.code yX6_run cX6_run 4 (some .int) :: tb) 0 0 [.ref (ad 0), vi n] ρ (fun v ρ' => v = some (vi (-1)) ∧ ρ = ρ') := by
  refine ct_of (by decide) rfl (Nat.le_of_ble_eq_true rfl) ?_
  intro p e s m below meth c C
  change X _ _ _ _ _ _ _ _ _ _ _ _ _ _ _ _ [(0, .ref (ad 0)), (1, vi n)] _
  refine x_iload_n C dX6_run_0 rfl rfl ?_
  refine x_if_lt (tgt := 11) C dX6_run_1 (by decide) (by omega) (fun c_1 => ?_) (fun c_1 => ?_)
  · refine x_iconst C dX6_run_11 ?_
    exact x_iret C dX6_run_12 ⟨_, rfl, rfl, rfl⟩
  · refine x_iload_n C dX6_run_4 rfl rfl ?_
    refine x_sipush C (z := 5000) dX6_run_5 (by decide) ?_
    refine x_icmp_le (tgt := 13) C dX6_run_8 (by decide) (by omega) (by omega) (fun c_8 => ?_) (fun c_8 => ?_)
    · omega
    · refine x_iconst C dX6_run_11 ?_
      exact x_iret C dX6_run_12 ⟨_, rfl, rfl, rfl⟩
section LCS
variable {p : Program} {l : Launch} {e : Env} {s : State} {m : MethodId} {bb L : Nat} {zs : Nat → Int} {below : List Frame} {meth : Method} {c : Code} {D : va_G} {ad1 ad2 : Nat → Nat} {g : Nat × Nat × Nat × Nat} {σ ρ : St} {cn sl : Nat}
set_option maxHeartbeats 4000000 in
set_option maxRecDepth 100000 in
theorem lc_0 (C : LF p s m meth c bb L zs D ad1 ad2 g) (hg : GG g) (hnp : g.2.1 = 2 ^ g.1) (hL : L ≤ 2564) (hRc : cn ≤ 600000 ∧ sl ≤ 7302250) (hLI : LI g σ ρ) (i : Int) (hi : 4 ≤ i ∧ i + 5 ≤ L) (K : ∀ σ' ρ' : St, LI g σ' ρ' → LZ p l e s m bb below meth c D ad1 ad2 g σ' ρ' cn sl 635 [(3, vi i), (2, .ref (ad2 0)), (1, .ref (ad1 0)), (0, .ref bb)] []) : LZ p l e s m bb below meth c D ad1 ad2 g σ ρ cn sl 160 [(3, vi i), (2, .ref (ad2 0)), (1, .ref (ad1 0)), (0, .ref bb)] [] := by
  obtain ⟨q, hI, hR⟩ := hLI
  have hql : 0 ≤ ρ 0 22 ∧ ρ 0 22 ≤ 12 := by
    have h1 := hR.ql.1
    have h2 := hR.ql.2.1
    omega
  refine l_aload_n C dL_law_160 rfl rfl ?_
  refine l_callK C (nn := 0) (c_init hg σ) g_RL_21 rfl (by decide +kernel) ⟨Nat.le_of_ble_eq_true rfl, Nat.le_of_ble_eq_true rfl⟩ hRc rfl rfl rfl (Nat.le_of_ble_eq_true rfl) dL_law_161 (fun v σ1 hp => ?_)
  obtain ⟨rfl, hk⟩ := hp
  dsimp only [Option.toList, List.cons_append, List.nil_append]
  refine l_aload_n C dL_law_164 rfl rfl ?_
  refine l_callR C (nn := 0) (r_init ρ (hR.rf hI.1)) g_RL_25 rfl (by decide +kernel) ⟨Nat.le_of_ble_eq_true rfl, Nat.le_of_ble_eq_true rfl⟩ hRc rfl rfl rfl (Nat.le_of_ble_eq_true rfl) dL_law_165 (fun v ρ1 hp => ?_)
  obtain ⟨rfl, hr⟩ := hp
  dsimp only [Option.toList, List.cons_append, List.nil_append]
  obtain ⟨he, hn⟩ := pr_init hI hR hg hnp hk hr
  refine l_eq C dL_law_168 (tgt := 635) (by decide) he ?_
  exact K _ _ hn
set_option maxHeartbeats 4000000 in
set_option maxRecDepth 100000 in
theorem lc_1 (C : LF p s m meth c bb L zs D ad1 ad2 g) (hg : GG g) (hnp : g.2.1 = 2 ^ g.1) (hL : L ≤ 2564) (hRc : cn ≤ 600000 ∧ sl ≤ 7302250) (hLI : LI g σ ρ) (i : Int) (hi : 4 ≤ i ∧ i + 5 ≤ L) (K : ∀ σ' ρ' : St, LI g σ' ρ' → LZ p l e s m bb below meth c D ad1 ad2 g σ' ρ' cn sl 635 [(3, vi i), (2, .ref (ad2 0)), (1, .ref (ad1 0)), (0, .ref bb)] []) : LZ p l e s m bb below meth c D ad1 ad2 g σ ρ cn sl 173 [(3, vi i), (2, .ref (ad2 0)), (1, .ref (ad1 0)), (0, .ref bb)] [] := by
  obtain ⟨q, hI, hR⟩ := hLI
  have hql : 0 ≤ ρ 0 22 ∧ ρ 0 22 ≤ 12 := by
    have h1 := hR.ql.1
    have h2 := hR.ql.2.1
    omega
  refine l_aload_n C dL_law_173 rfl rfl ?_
  refine l_aload_n C dL_law_174 rfl rfl ?_
  refine l_iload_n C dL_law_175 rfl rfl ?_
  refine l_iconst C dL_law_176 ?_
  refine l_iadd C dL_law_177 ?_
  refine l_sld C dL_law_178 (by omega) (by omega) ?_
  refine l_callK C (nn := 1) (c_newNumber hg hnp σ hI.1.mi hI.1.cn hI.1.flg hI.1.c6r hI.1.all (zs (i + 1).toNat) (C.2.2.2.2.2.2.2.2.1.2.2 _)) g_RL_26 rfl (by decide +kernel) ⟨Nat.le_of_ble_eq_true rfl, Nat.le_of_ble_eq_true rfl⟩ hRc rfl rfl rfl (Nat.le_of_ble_eq_true rfl) dL_law_179 (fun v σ1 hp => ?_)
  obtain ⟨z0, rfl, hk⟩ := hp
  dsimp only [Option.toList, List.cons_append, List.nil_append]
  refine l_aload_n C dL_law_182 rfl rfl ?_
  refine l_aload_n C dL_law_183 rfl rfl ?_
  refine l_iload_n C dL_law_184 rfl rfl ?_
  refine l_iconst C dL_law_185 ?_
  refine l_iadd C dL_law_186 ?_
  refine l_sld C dL_law_187 (by omega) (by omega) ?_
  refine l_callR C (nn := 1) (r_newNumber hg hnp ρ hR.rs (hR.rf hI.1) (hR.ag.mi hg.2.1 hI.1.mi) (zs (i + 1).toNat) (C.2.2.2.2.2.2.2.2.1.2.2 _)) g_RL_30 rfl (by decide +kernel) ⟨Nat.le_of_ble_eq_true rfl, Nat.le_of_ble_eq_true rfl⟩ hRc rfl rfl rfl (Nat.le_of_ble_eq_true rfl) dL_law_188 (fun v ρ1 hp => ?_)
  obtain ⟨z1, rfl, hr⟩ := hp
  dsimp only [Option.toList, List.cons_append, List.nil_append]
  obtain ⟨he, hn0⟩ := hR.newNumber hI.1 hg hnp hk hr
  have hn : LI g σ1 ρ1 := ⟨q, hI.newNumber hg hnp hk, hn0⟩
  refine l_eq C dL_law_191 (tgt := 635) (by decide) he ?_
  exact K _ _ hn
set_option maxHeartbeats 4000000 in
set_option maxRecDepth 100000 in
theorem lc_2 (C : LF p s m meth c bb L zs D ad1 ad2 g) (hg : GG g) (hnp : g.2.1 = 2 ^ g.1) (hL : L ≤ 2564) (hRc : cn ≤ 600000 ∧ sl ≤ 7302250) (hLI : LI g σ ρ) (i : Int) (hi : 4 ≤ i ∧ i + 5 ≤ L) (K : ∀ σ' ρ' : St, LI g σ' ρ' → LZ p l e s m bb below meth c D ad1 ad2 g σ' ρ' cn sl 635 [(3, vi i), (2, .ref (ad2 0)), (1, .ref (ad1 0)), (0, .ref bb)] []) : LZ p l e s m bb below meth c D ad1 ad2 g σ ρ cn sl 196 [(3, vi i), (2, .ref (ad2 0)), (1, .ref (ad1 0)), (0, .ref bb)] [] := by
  obtain ⟨q, hI, hR⟩ := hLI
  have hql : 0 ≤ ρ 0 22 ∧ ρ 0 22 ≤ 12 := by
    have h1 := hR.ql.1
    have h2 := hR.ql.2.1
    omega
  refine l_aload_n C dL_law_196 rfl rfl ?_
  refine l_aload_n C dL_law_197 rfl rfl ?_
  refine l_iload_n C dL_law_198 rfl rfl ?_
  refine l_iconst C dL_law_199 ?_
  refine l_iadd C dL_law_200 ?_
  refine l_sld C dL_law_201 (by omega) (by omega) ?_
  refine l_aload_n C dL_law_202 rfl rfl ?_
  refine l_iload_n C dL_law_203 rfl rfl ?_
  refine l_iconst C dL_law_204 ?_
  refine l_iadd C dL_law_205 ?_
  refine l_sld C dL_law_206 (by omega) (by omega) ?_
  refine l_aload_n C dL_law_207 rfl rfl ?_
  refine l_iload_n C dL_law_208 rfl rfl ?_
  refine l_iconst C dL_law_209 ?_
  refine l_iadd C dL_law_210 ?_
  refine l_sld C dL_law_211 (by omega) (by omega) ?_
  refine l_callK C (nn := 3) (c_setLimb hg σ hI.1.flg (hI.1.num2 hg hnp) (zs (i + 1).toNat) (zs (i + 2).toNat) (zs (i + 3).toNat) (C.2.2.2.2.2.2.2.2.1.2.2 _) (C.2.2.2.2.2.2.2.2.1.2.2 _) (C.2.2.2.2.2.2.2.2.1.2.2 _)) g_RL_31 rfl (by decide +kernel) ⟨Nat.le_of_ble_eq_true rfl, Nat.le_of_ble_eq_true rfl⟩ hRc rfl rfl rfl (Nat.le_of_ble_eq_true rfl) dL_law_212 (fun v σ1 hp => ?_)
  obtain ⟨z0, rfl, hk⟩ : ∃ z0 : Int, v = some (vi z0) ∧ setK g σ σ1 (zs (i + 1).toNat) (zs (i + 2).toNat) (zs (i + 3).toNat) z0 := by
    rcases hp with ⟨a, b, d⟩ | ⟨a, b, d⟩
    · exact ⟨1, b, Or.inl ⟨a, rfl, d⟩⟩
    · exact ⟨0, b, Or.inr ⟨a, rfl, d⟩⟩
  dsimp only [Option.toList, List.cons_append, List.nil_append]
  refine l_aload_n C dL_law_215 rfl rfl ?_
  refine l_aload_n C dL_law_216 rfl rfl ?_
  refine l_iload_n C dL_law_217 rfl rfl ?_
  refine l_iconst C dL_law_218 ?_
  refine l_iadd C dL_law_219 ?_
  refine l_sld C dL_law_220 (by omega) (by omega) ?_
  refine l_aload_n C dL_law_221 rfl rfl ?_
  refine l_iload_n C dL_law_222 rfl rfl ?_
  refine l_iconst C dL_law_223 ?_
  refine l_iadd C dL_law_224 ?_
  refine l_sld C dL_law_225 (by omega) (by omega) ?_
  refine l_aload_n C dL_law_226 rfl rfl ?_
  refine l_iload_n C dL_law_227 rfl rfl ?_
  refine l_iconst C dL_law_228 ?_
  refine l_iadd C dL_law_229 ?_
  refine l_sld C dL_law_230 (by omega) (by omega) ?_
  refine l_callR C (nn := 3) (r_setLimb hg ρ hR.rs (hR.rf hI.1) (hR.rn hI.1 hg hnp) (zs (i + 1).toNat) (zs (i + 2).toNat) (zs (i + 3).toNat) (C.2.2.2.2.2.2.2.2.1.2.2 _) (C.2.2.2.2.2.2.2.2.1.2.2 _) (C.2.2.2.2.2.2.2.2.1.2.2 _)) g_RL_35 rfl (by decide +kernel) ⟨Nat.le_of_ble_eq_true rfl, Nat.le_of_ble_eq_true rfl⟩ hRc rfl rfl rfl (Nat.le_of_ble_eq_true rfl) dL_law_231 (fun v ρ1 hp => ?_)
  obtain ⟨z1, rfl, hr⟩ : ∃ z0 : Int, v = some (vi z0) ∧ setR g ρ ρ1 (zs (i + 1).toNat) (zs (i + 2).toNat) (zs (i + 3).toNat) z0 := by
    rcases hp with ⟨a, b, d⟩ | ⟨a, b, d⟩
    · exact ⟨1, b, Or.inl ⟨a, rfl, d⟩⟩
    · exact ⟨0, b, Or.inr ⟨a, rfl, d⟩⟩
  dsimp only [Option.toList, List.cons_append, List.nil_append]
  obtain ⟨he, hn⟩ := pr_set hI hR hg hnp (C.2.2.2.2.2.2.2.2.1.2.2 _).2 hk hr
  refine l_eq C dL_law_234 (tgt := 635) (by decide) he ?_
  exact K _ _ hn
set_option maxHeartbeats 4000000 in
set_option maxRecDepth 100000 in
theorem lc_3 (C : LF p s m meth c bb L zs D ad1 ad2 g) (hg : GG g) (hnp : g.2.1 = 2 ^ g.1) (hL : L ≤ 2564) (hRc : cn ≤ 600000 ∧ sl ≤ 7302250) (hLI : LI g σ ρ) (i : Int) (hi : 4 ≤ i ∧ i + 5 ≤ L) (K : ∀ σ' ρ' : St, LI g σ' ρ' → LZ p l e s m bb below meth c D ad1 ad2 g σ' ρ' cn sl 635 [(3, vi i), (2, .ref (ad2 0)), (1, .ref (ad1 0)), (0, .ref bb)] []) : LZ p l e s m bb below meth c D ad1 ad2 g σ ρ cn sl 239 [(3, vi i), (2, .ref (ad2 0)), (1, .ref (ad1 0)), (0, .ref bb)] [] := by
  obtain ⟨q, hI, hR⟩ := hLI
  have hql : 0 ≤ ρ 0 22 ∧ ρ 0 22 ≤ 12 := by
    have h1 := hR.ql.1
    have h2 := hR.ql.2.1
    omega
  refine l_aload_n C dL_law_239 rfl rfl ?_
  refine l_aload_n C dL_law_240 rfl rfl ?_
  refine l_iload_n C dL_law_241 rfl rfl ?_
  refine l_iconst C dL_law_242 ?_
  refine l_iadd C dL_law_243 ?_
  refine l_sld C dL_law_244 (by omega) (by omega) ?_
  refine l_aload_n C dL_law_245 rfl rfl ?_
  refine l_iload_n C dL_law_246 rfl rfl ?_
  refine l_iconst C dL_law_247 ?_
  refine l_iadd C dL_law_248 ?_
  refine l_sld C dL_law_249 (by omega) (by omega) ?_
  refine l_callK C (nn := 2) (c_getLimb hg σ hI.1.flg (hI.1.num2 hg hnp) (zs (i + 1).toNat) (zs (i + 2).toNat) (C.2.2.2.2.2.2.2.2.1.2.2 _) (C.2.2.2.2.2.2.2.2.1.2.2 _)) g_RL_36 rfl (by decide +kernel) ⟨Nat.le_of_ble_eq_true rfl, Nat.le_of_ble_eq_true rfl⟩ hRc rfl rfl rfl (Nat.le_of_ble_eq_true rfl) dL_law_250 (fun v σ1 hp => ?_)
  obtain ⟨rfl, rfl⟩ := hp
  dsimp only [Option.toList, List.cons_append, List.nil_append]
  refine l_aload_n C dL_law_253 rfl rfl ?_
  refine l_aload_n C dL_law_254 rfl rfl ?_
  refine l_iload_n C dL_law_255 rfl rfl ?_
  refine l_iconst C dL_law_256 ?_
  refine l_iadd C dL_law_257 ?_
  refine l_sld C dL_law_258 (by omega) (by omega) ?_
  refine l_aload_n C dL_law_259 rfl rfl ?_
  refine l_iload_n C dL_law_260 rfl rfl ?_
  refine l_iconst C dL_law_261 ?_
  refine l_iadd C dL_law_262 ?_
  refine l_sld C dL_law_263 (by omega) (by omega) ?_
  refine l_callR C (nn := 2) (r_getLimb hg ρ hR.rs (hR.rf hI.1) (hR.rn hI.1 hg hnp) (zs (i + 1).toNat) (zs (i + 2).toNat) (C.2.2.2.2.2.2.2.2.1.2.2 _) (C.2.2.2.2.2.2.2.2.1.2.2 _)) g_RL_40 rfl (by decide +kernel) ⟨Nat.le_of_ble_eq_true rfl, Nat.le_of_ble_eq_true rfl⟩ hRc rfl rfl rfl (Nat.le_of_ble_eq_true rfl) dL_law_264 (fun v ρ1 hp => ?_)
  obtain ⟨rfl, rfl⟩ := hp
  dsimp only [Option.toList, List.cons_append, List.nil_append]
  have he := eq_limb hR hI.1 hnp (zs (i + 1).toNat) (zs (i + 2).toNat)
  have hn : LI g σ ρ := ⟨q, hI, hR⟩
  refine l_eq C dL_law_267 (tgt := 635) (by decide) he ?_
  exact K _ _ hn
set_option maxHeartbeats 4000000 in
set_option maxRecDepth 100000 in
theorem lc_4 (C : LF p s m meth c bb L zs D ad1 ad2 g) (hg : GG g) (hnp : g.2.1 = 2 ^ g.1) (hL : L ≤ 2564) (hRc : cn ≤ 600000 ∧ sl ≤ 7302250) (hLI : LI g σ ρ) (i : Int) (hi : 4 ≤ i ∧ i + 5 ≤ L) (K : ∀ σ' ρ' : St, LI g σ' ρ' → LZ p l e s m bb below meth c D ad1 ad2 g σ' ρ' cn sl 635 [(3, vi i), (2, .ref (ad2 0)), (1, .ref (ad1 0)), (0, .ref bb)] []) : LZ p l e s m bb below meth c D ad1 ad2 g σ ρ cn sl 272 [(3, vi i), (2, .ref (ad2 0)), (1, .ref (ad1 0)), (0, .ref bb)] [] := by
  obtain ⟨q, hI, hR⟩ := hLI
  have hql : 0 ≤ ρ 0 22 ∧ ρ 0 22 ≤ 12 := by
    have h1 := hR.ql.1
    have h2 := hR.ql.2.1
    omega
  refine l_aload_n C dL_law_272 rfl rfl ?_
  refine l_aload_n C dL_law_273 rfl rfl ?_
  refine l_iload_n C dL_law_274 rfl rfl ?_
  refine l_iconst C dL_law_275 ?_
  refine l_iadd C dL_law_276 ?_
  refine l_sld C dL_law_277 (by omega) (by omega) ?_
  refine l_callK C (nn := 1) (c_sizeOf hg σ hI.1.flg (zs (i + 1).toNat) (C.2.2.2.2.2.2.2.2.1.2.2 _)) g_RL_41 rfl (by decide +kernel) ⟨Nat.le_of_ble_eq_true rfl, Nat.le_of_ble_eq_true rfl⟩ hRc rfl rfl rfl (Nat.le_of_ble_eq_true rfl) dL_law_278 (fun v σ1 hp => ?_)
  obtain ⟨rfl, rfl⟩ := hp
  dsimp only [Option.toList, List.cons_append, List.nil_append]
  refine l_aload_n C dL_law_281 rfl rfl ?_
  refine l_aload_n C dL_law_282 rfl rfl ?_
  refine l_iload_n C dL_law_283 rfl rfl ?_
  refine l_iconst C dL_law_284 ?_
  refine l_iadd C dL_law_285 ?_
  refine l_sld C dL_law_286 (by omega) (by omega) ?_
  refine l_callR C (nn := 1) (r_sizeOf hg ρ hR.rs (hR.rf hI.1) (zs (i + 1).toNat) (C.2.2.2.2.2.2.2.2.1.2.2 _)) g_RL_44 rfl (by decide +kernel) ⟨Nat.le_of_ble_eq_true rfl, Nat.le_of_ble_eq_true rfl⟩ hRc rfl rfl rfl (Nat.le_of_ble_eq_true rfl) dL_law_287 (fun v ρ1 hp => ?_)
  obtain ⟨rfl, rfl⟩ := hp
  dsimp only [Option.toList, List.cons_append, List.nil_append]
  have he := eq_size hR (zs (i + 1).toNat)
  have hn : LI g σ ρ := ⟨q, hI, hR⟩
  refine l_eq C dL_law_290 (tgt := 635) (by decide) he ?_
  exact K _ _ hn
set_option maxHeartbeats 4000000 in
set_option maxRecDepth 100000 in
theorem lc_5 (C : LF p s m meth c bb L zs D ad1 ad2 g) (hg : GG g) (hnp : g.2.1 = 2 ^ g.1) (hL : L ≤ 2564) (hRc : cn ≤ 600000 ∧ sl ≤ 7302250) (hLI : LI g σ ρ) (i : Int) (hi : 4 ≤ i ∧ i + 5 ≤ L) (K : ∀ σ' ρ' : St, LI g σ' ρ' → LZ p l e s m bb below meth c D ad1 ad2 g σ' ρ' cn sl 635 [(3, vi i), (2, .ref (ad2 0)), (1, .ref (ad1 0)), (0, .ref bb)] []) : LZ p l e s m bb below meth c D ad1 ad2 g σ ρ cn sl 295 [(3, vi i), (2, .ref (ad2 0)), (1, .ref (ad1 0)), (0, .ref bb)] [] := by
  obtain ⟨q, hI, hR⟩ := hLI
  have hql : 0 ≤ ρ 0 22 ∧ ρ 0 22 ≤ 12 := by
    have h1 := hR.ql.1
    have h2 := hR.ql.2.1
    omega
  have hBr : ∀ k, k < g.2.2.1 → ρ 6 k = 1 → ∃ A o : Nat, ρ 8 k = A ∧ ρ 9 k = o ∧ o ≤ g.1 ∧ 2 ^ o ∣ A ∧ A + 2 ^ o ≤ 2 ^ g.1 ∧ ∀ b, A ≤ b → b < A + 2 ^ o → ρ 5 b = -1 := fun k hk hu => by
    rw [hR.u6 k hk] at hu
    obtain ⟨A, n, o, c1, -, c3, -, -, -, hB, -, -⟩ := hI.1.num hnp hk hu
    have hN := hR.nm k hk hu
    have hB' := hR.ag.hb hB
    exact ⟨A, o, by have := hN.2.1; omega, by have := hN.2.2.1; omega, hB'.lt.2, hB'.1, hB'.2.1, hB'.2.2.1⟩
  refine l_aload_n C dL_law_295 rfl rfl ?_
  refine l_aload_n C dL_law_296 rfl rfl ?_
  refine l_iload_n C dL_law_297 rfl rfl ?_
  refine l_iconst C dL_law_298 ?_
  refine l_iadd C dL_law_299 ?_
  refine l_sld C dL_law_300 (by omega) (by omega) ?_
  refine l_callK C (nn := 1) (c_release hg hnp σ hI.1.mi hI.1.cn hI.1.flg (hI.1.num2 hg hnp) (hI.1.r5 hg) (hI.1.blk hnp) (zs (i + 1).toNat) (C.2.2.2.2.2.2.2.2.1.2.2 _)) g_RL_45 rfl (by decide +kernel) ⟨Nat.le_of_ble_eq_true rfl, Nat.le_of_ble_eq_true rfl⟩ hRc rfl rfl rfl (Nat.le_of_ble_eq_true rfl) dL_law_301 (fun v σ1 hp => ?_)
  obtain ⟨z0, rfl, hk⟩ : ∃ z0 : Int, v = some (vi z0) ∧ relK g σ σ1 (zs (i + 1).toNat) z0 := by
    rcases hp with ⟨a, b, d⟩ | ⟨b, d⟩
    · exact ⟨0, b, Or.inl ⟨a, rfl, d⟩⟩
    · exact ⟨1, b, Or.inr ⟨rfl, d⟩⟩
  dsimp only [Option.toList, List.cons_append, List.nil_append]
  refine l_aload_n C dL_law_304 rfl rfl ?_
  refine l_aload_n C dL_law_305 rfl rfl ?_
  refine l_iload_n C dL_law_306 rfl rfl ?_
  refine l_iconst C dL_law_307 ?_
  refine l_iadd C dL_law_308 ?_
  refine l_sld C dL_law_309 (by omega) (by omega) ?_
  refine l_callR C (nn := 1) (r_release hg hnp ρ hR.rs (hR.rf hI.1) (hR.rn hI.1 hg hnp) (hR.r18 hI.1 hg) (hR.ag.mi hg.2.1 hI.1.mi) hBr (zs (i + 1).toNat) (C.2.2.2.2.2.2.2.2.1.2.2 _)) g_RL_49 rfl (by decide +kernel) ⟨Nat.le_of_ble_eq_true rfl, Nat.le_of_ble_eq_true rfl⟩ hRc rfl rfl rfl (Nat.le_of_ble_eq_true rfl) dL_law_310 (fun v ρ1 hp => ?_)
  obtain ⟨z1, rfl, hr⟩ : ∃ z0 : Int, v = some (vi z0) ∧ relR g ρ ρ1 (zs (i + 1).toNat) z0 := by
    rcases hp with ⟨a, b, d⟩ | ⟨b, d⟩
    · exact ⟨0, b, Or.inl ⟨a, rfl, d⟩⟩
    · exact ⟨1, b, Or.inr ⟨rfl, d⟩⟩
  dsimp only [Option.toList, List.cons_append, List.nil_append]
  obtain ⟨he, hn⟩ := pr_release hI hR hg hnp hk hr
  refine l_eq C dL_law_313 (tgt := 635) (by decide) he ?_
  exact K _ _ hn
set_option maxHeartbeats 4000000 in
set_option maxRecDepth 100000 in
theorem lc_6 (C : LF p s m meth c bb L zs D ad1 ad2 g) (hg : GG g) (hnp : g.2.1 = 2 ^ g.1) (hL : L ≤ 2564) (hRc : cn ≤ 600000 ∧ sl ≤ 7302250) (hLI : LI g σ ρ) (i : Int) (hi : 4 ≤ i ∧ i + 5 ≤ L) (K : ∀ σ' ρ' : St, LI g σ' ρ' → LZ p l e s m bb below meth c D ad1 ad2 g σ' ρ' cn sl 635 [(3, vi i), (2, .ref (ad2 0)), (1, .ref (ad1 0)), (0, .ref bb)] []) : LZ p l e s m bb below meth c D ad1 ad2 g σ ρ cn sl 318 [(3, vi i), (2, .ref (ad2 0)), (1, .ref (ad1 0)), (0, .ref bb)] [] := by
  obtain ⟨q, hI, hR⟩ := hLI
  have hql : 0 ≤ ρ 0 22 ∧ ρ 0 22 ≤ 12 := by
    have h1 := hR.ql.1
    have h2 := hR.ql.2.1
    omega
  refine l_aload_n C dL_law_318 rfl rfl ?_
  refine l_aload_n C dL_law_319 rfl rfl ?_
  refine l_iload_n C dL_law_320 rfl rfl ?_
  refine l_iconst C dL_law_321 ?_
  refine l_iadd C dL_law_322 ?_
  refine l_sld C dL_law_323 (by omega) (by omega) ?_
  refine l_aload_n C dL_law_324 rfl rfl ?_
  refine l_iload_n C dL_law_325 rfl rfl ?_
  refine l_iconst C dL_law_326 ?_
  refine l_iadd C dL_law_327 ?_
  refine l_sld C dL_law_328 (by omega) (by omega) ?_
  refine l_aload_n C dL_law_329 rfl rfl ?_
  refine l_iload_n C dL_law_330 rfl rfl ?_
  refine l_iconst C dL_law_331 ?_
  refine l_iadd C dL_law_332 ?_
  refine l_sld C dL_law_333 (by omega) (by omega) ?_
  refine l_aload_n C dL_law_334 rfl rfl ?_
  refine l_iload_n C dL_law_335 rfl rfl ?_
  refine l_iconst C dL_law_336 ?_
  refine l_iadd C dL_law_337 ?_
  refine l_sld C dL_law_338 (by omega) (by omega) ?_
  refine l_callK C (nn := 4) (c_submit hg σ hI.1.flg hI.1.stt (hI.1.num2 hg hnp) hI.1.lm q hI.2.1 hI.room (zs (i + 1).toNat) (zs (i + 2).toNat) (zs (i + 3).toNat) (zs (i + 4).toNat) (C.2.2.2.2.2.2.2.2.1.2.2 _) (C.2.2.2.2.2.2.2.2.1.2.2 _) (C.2.2.2.2.2.2.2.2.1.2.2 _) (C.2.2.2.2.2.2.2.2.1.2.2 _)) g_RL_50 rfl (by decide +kernel) ⟨Nat.le_of_ble_eq_true rfl, Nat.le_of_ble_eq_true rfl⟩ hRc rfl rfl rfl (Nat.le_of_ble_eq_true rfl) dL_law_339 (fun v σ1 hp => ?_)
  obtain ⟨z0, rfl, hk⟩ := hp
  dsimp only [Option.toList, List.cons_append, List.nil_append]
  refine l_aload_n C dL_law_342 rfl rfl ?_
  refine l_aload_n C dL_law_343 rfl rfl ?_
  refine l_iload_n C dL_law_344 rfl rfl ?_
  refine l_iconst C dL_law_345 ?_
  refine l_iadd C dL_law_346 ?_
  refine l_sld C dL_law_347 (by omega) (by omega) ?_
  refine l_aload_n C dL_law_348 rfl rfl ?_
  refine l_iload_n C dL_law_349 rfl rfl ?_
  refine l_iconst C dL_law_350 ?_
  refine l_iadd C dL_law_351 ?_
  refine l_sld C dL_law_352 (by omega) (by omega) ?_
  refine l_aload_n C dL_law_353 rfl rfl ?_
  refine l_iload_n C dL_law_354 rfl rfl ?_
  refine l_iconst C dL_law_355 ?_
  refine l_iadd C dL_law_356 ?_
  refine l_sld C dL_law_357 (by omega) (by omega) ?_
  refine l_aload_n C dL_law_358 rfl rfl ?_
  refine l_iload_n C dL_law_359 rfl rfl ?_
  refine l_iconst C dL_law_360 ?_
  refine l_iadd C dL_law_361 ?_
  refine l_sld C dL_law_362 (by omega) (by omega) ?_
  refine l_callR C (nn := 4) (r_submit hg ρ hR.rs (hR.rf hI.1) (hR.rn hI.1 hg hnp) hR.lm hql (zs (i + 1).toNat) (zs (i + 2).toNat) (zs (i + 3).toNat) (zs (i + 4).toNat) (C.2.2.2.2.2.2.2.2.1.2.2 _) (C.2.2.2.2.2.2.2.2.1.2.2 _) (C.2.2.2.2.2.2.2.2.1.2.2 _) (C.2.2.2.2.2.2.2.2.1.2.2 _)) g_RL_54 rfl (by decide +kernel) ⟨Nat.le_of_ble_eq_true rfl, Nat.le_of_ble_eq_true rfl⟩ hRc rfl rfl rfl (Nat.le_of_ble_eq_true rfl) dL_law_363 (fun v ρ1 hp => ?_)
  obtain ⟨z1, rfl, hr⟩ := hp
  dsimp only [Option.toList, List.cons_append, List.nil_append]
  obtain ⟨he, hn⟩ := hR.submit hI hg hnp hk hr
  refine l_eq C dL_law_366 (tgt := 635) (by decide) he ?_
  exact K _ _ hn
set_option maxHeartbeats 4000000 in
set_option maxRecDepth 100000 in
theorem lc_7 (C : LF p s m meth c bb L zs D ad1 ad2 g) (hg : GG g) (hnp : g.2.1 = 2 ^ g.1) (hL : L ≤ 2564) (hRc : cn ≤ 600000 ∧ sl ≤ 7302250) (hLI : LI g σ ρ) (i : Int) (hi : 4 ≤ i ∧ i + 5 ≤ L) (K : ∀ σ' ρ' : St, LI g σ' ρ' → LZ p l e s m bb below meth c D ad1 ad2 g σ' ρ' cn sl 635 [(3, vi i), (2, .ref (ad2 0)), (1, .ref (ad1 0)), (0, .ref bb)] []) : LZ p l e s m bb below meth c D ad1 ad2 g σ ρ cn sl 371 [(3, vi i), (2, .ref (ad2 0)), (1, .ref (ad1 0)), (0, .ref bb)] [] := by
  obtain ⟨q, hI, hR⟩ := hLI
  have hql : 0 ≤ ρ 0 22 ∧ ρ 0 22 ≤ 12 := by
    have h1 := hR.ql.1
    have h2 := hR.ql.2.1
    omega
  refine l_aload_n C dL_law_371 rfl rfl ?_
  refine l_callK C (nn := 0) (c_tick hg hnp σ q (hI.tpre hg hnp)) g_RL_55 rfl (by decide +kernel) ⟨Nat.le_of_ble_eq_true rfl, Nat.le_of_ble_eq_true rfl⟩ hRc rfl rfl rfl (Nat.le_of_ble_eq_true rfl) dL_law_372 (fun v σ1 hp => ?_)
  obtain ⟨z0, rfl, hk⟩ := hp
  dsimp only [Option.toList, List.cons_append, List.nil_append]
  refine l_aload_n C dL_law_375 rfl rfl ?_
  refine l_callR C (nn := 0) (r_tick hg hnp ρ q (TPr.of hR hI hg hnp)) g_RL_58 rfl (by decide +kernel) ⟨Nat.le_of_ble_eq_true rfl, Nat.le_of_ble_eq_true rfl⟩ hRc rfl rfl rfl (Nat.le_of_ble_eq_true rfl) dL_law_376 (fun v ρ1 hp => ?_)
  obtain ⟨z1, rfl, hr⟩ := hp
  dsimp only [Option.toList, List.cons_append, List.nil_append]
  obtain ⟨he, hn⟩ := hR.turn hI hg hnp hk hr
  refine l_eq C dL_law_379 (tgt := 635) (by decide) he ?_
  exact K _ _ hn
set_option maxHeartbeats 4000000 in
set_option maxRecDepth 100000 in
theorem lc_8 (C : LF p s m meth c bb L zs D ad1 ad2 g) (hg : GG g) (hnp : g.2.1 = 2 ^ g.1) (hL : L ≤ 2564) (hRc : cn ≤ 600000 ∧ sl ≤ 7302250) (hLI : LI g σ ρ) (i : Int) (hi : 4 ≤ i ∧ i + 5 ≤ L) (K : ∀ σ' ρ' : St, LI g σ' ρ' → LZ p l e s m bb below meth c D ad1 ad2 g σ' ρ' cn sl 635 [(3, vi i), (2, .ref (ad2 0)), (1, .ref (ad1 0)), (0, .ref bb)] []) : LZ p l e s m bb below meth c D ad1 ad2 g σ ρ cn sl 384 [(3, vi i), (2, .ref (ad2 0)), (1, .ref (ad1 0)), (0, .ref bb)] [] := by
  obtain ⟨q, hI, hR⟩ := hLI
  have hql : 0 ≤ ρ 0 22 ∧ ρ 0 22 ≤ 12 := by
    have h1 := hR.ql.1
    have h2 := hR.ql.2.1
    omega
  refine l_aload_n C dL_law_384 rfl rfl ?_
  refine l_aload_n C dL_law_385 rfl rfl ?_
  refine l_iload_n C dL_law_386 rfl rfl ?_
  refine l_iconst C dL_law_387 ?_
  refine l_iadd C dL_law_388 ?_
  refine l_sld C dL_law_389 (by omega) (by omega) ?_
  refine l_callK C (nn := 1) (c_run hg hnp (fun σ q => INV g σ q) (fun σ q h => h.tpre hg hnp) (fun σ σ' q r h hT hr => inv_step hg hnp h hT hr) σ q hI (zs (i + 1).toNat) (C.2.2.2.2.2.2.2.2.1.2.2 _)) g_RL_59 rfl (by decide +kernel) ⟨Nat.le_of_ble_eq_true rfl, Nat.le_of_ble_eq_true rfl⟩ hRc rfl rfl rfl (Nat.le_of_ble_eq_true rfl) dL_law_390 (fun v σ1 hp => ?_)
  obtain ⟨z0, rfl, hk⟩ : ∃ z0 : Int, v = some (vi z0) ∧ runK g σ σ1 q (zs (i + 1).toNat) z0 := by
    rcases hp with ⟨a, b, d⟩ | ⟨a, d, b, f⟩
    · exact ⟨-1, b, Or.inl ⟨a, rfl, d⟩⟩
    · exact ⟨d, b, Or.inr ⟨a, f⟩⟩
  dsimp only [Option.toList, List.cons_append, List.nil_append]
  rcases hk with ⟨ho, rfl, rfl⟩ | ⟨ho, hN⟩
  · refine l_aload_n C dL_law_393 rfl rfl ?_
    refine l_aload_n C dL_law_394 rfl rfl ?_
    refine l_iload_n C dL_law_395 rfl rfl ?_
    refine l_iconst C dL_law_396 ?_
    refine l_iadd C dL_law_397 ?_
    refine l_sld C dL_law_398 (by omega) (by omega) ?_
    refine l_callR C (nn := 1) (r_runO (zs (i + 1).toNat) ho ρ (C.2.2.2.2.2.2.2.2.1.2.2 _)) g_RL_62 rfl (by decide +kernel) ⟨Nat.le_of_ble_eq_true rfl, Nat.le_of_ble_eq_true rfl⟩ hRc rfl rfl rfl (Nat.le_of_ble_eq_true rfl) dL_law_399 (fun v ρ1 hp => ?_)
    obtain ⟨rfl, rfl⟩ := hp
    dsimp only [Option.toList, List.cons_append, List.nil_append]
    have he : (-1 : Int) = -1 := rfl
    have hn : LI g σ ρ := ⟨q, hI, hR⟩
    refine l_eq C dL_law_402 (tgt := 635) (by decide) he ?_
    exact K _ _ hn
  · refine l_aload_n C dL_law_393 rfl rfl ?_
    refine l_aload_n C dL_law_394 rfl rfl ?_
    refine l_iload_n C dL_law_395 rfl rfl ?_
    refine l_iconst C dL_law_396 ?_
    refine l_iadd C dL_law_397 ?_
    refine l_sld C dL_law_398 (by omega) (by omega) ?_
    refine l_callR C (nn := 1) (r_run hg hnp (JR g σ1 z0 (zs (i + 1).toNat).toNat) (fun k ρ q h => by obtain ⟨σ, d, h1, h2, -⟩ := h; exact TPr.of h2 h1 hg hnp) (fun k ρ ρ' q r h hT hr => h.step hg hnp hT hr) (zs (i + 1).toNat) ρ q ⟨σ, z0, hI, hR, hN, by omega⟩ (C.2.2.2.2.2.2.2.2.1.2.2 _)) g_RL_62 rfl (by decide +kernel) ⟨Nat.le_of_ble_eq_true rfl, Nat.le_of_ble_eq_true rfl⟩ hRc rfl rfl rfl (Nat.le_of_ble_eq_true rfl) dL_law_399 (fun v ρ1 hp => ?_)
    obtain ⟨k1, q1, rfl, hJ, hend⟩ : ∃ (k1 : Nat) (q1 : List Int), v = some (vi ((zs (i + 1).toNat) - k1)) ∧ JR g σ1 z0 (zs (i + 1).toNat).toNat k1 ρ1 q1 ∧ (k1 = 0 ∨ q1 = []) := by
      rcases hp with ⟨a, -⟩ | ⟨-, a⟩
      · exact absurd ho a
      · exact a
    dsimp only [Option.toList, List.cons_append, List.nil_append]
    obtain ⟨he0, hn⟩ := hJ.end_ hend
    have he : z0 = (zs (i + 1).toNat) - k1 := by omega
    refine l_eq C dL_law_402 (tgt := 635) (by decide) he ?_
    exact K _ _ hn
set_option maxHeartbeats 4000000 in
set_option maxRecDepth 100000 in
theorem lc_9 (C : LF p s m meth c bb L zs D ad1 ad2 g) (hg : GG g) (hnp : g.2.1 = 2 ^ g.1) (hL : L ≤ 2564) (hRc : cn ≤ 600000 ∧ sl ≤ 7302250) (hLI : LI g σ ρ) (i : Int) (hi : 4 ≤ i ∧ i + 5 ≤ L) (K : ∀ σ' ρ' : St, LI g σ' ρ' → LZ p l e s m bb below meth c D ad1 ad2 g σ' ρ' cn sl 635 [(3, vi i), (2, .ref (ad2 0)), (1, .ref (ad1 0)), (0, .ref bb)] []) : LZ p l e s m bb below meth c D ad1 ad2 g σ ρ cn sl 407 [(3, vi i), (2, .ref (ad2 0)), (1, .ref (ad1 0)), (0, .ref bb)] [] := by
  obtain ⟨q, hI, hR⟩ := hLI
  have hql : 0 ≤ ρ 0 22 ∧ ρ 0 22 ≤ 12 := by
    have h1 := hR.ql.1
    have h2 := hR.ql.2.1
    omega
  refine l_aload_n C dL_law_407 rfl rfl ?_
  refine l_aload_n C dL_law_408 rfl rfl ?_
  refine l_iload_n C dL_law_409 rfl rfl ?_
  refine l_iconst C dL_law_410 ?_
  refine l_iadd C dL_law_411 ?_
  refine l_sld C dL_law_412 (by omega) (by omega) ?_
  refine l_callK C (nn := 1) (c_jobState hg σ hI.1.stt (zs (i + 1).toNat) (C.2.2.2.2.2.2.2.2.1.2.2 _)) g_RL_63 rfl (by decide +kernel) ⟨Nat.le_of_ble_eq_true rfl, Nat.le_of_ble_eq_true rfl⟩ hRc rfl rfl rfl (Nat.le_of_ble_eq_true rfl) dL_law_413 (fun v σ1 hp => ?_)
  obtain ⟨rfl, rfl⟩ := hp
  dsimp only [Option.toList, List.cons_append, List.nil_append]
  refine l_aload_n C dL_law_416 rfl rfl ?_
  refine l_aload_n C dL_law_417 rfl rfl ?_
  refine l_iload_n C dL_law_418 rfl rfl ?_
  refine l_iconst C dL_law_419 ?_
  refine l_iadd C dL_law_420 ?_
  refine l_sld C dL_law_421 (by omega) (by omega) ?_
  refine l_callR C (nn := 1) (r_jobState hg ρ hR.rs (hR.rf hI.1) (zs (i + 1).toNat) (C.2.2.2.2.2.2.2.2.1.2.2 _)) g_RL_66 rfl (by decide +kernel) ⟨Nat.le_of_ble_eq_true rfl, Nat.le_of_ble_eq_true rfl⟩ hRc rfl rfl rfl (Nat.le_of_ble_eq_true rfl) dL_law_422 (fun v ρ1 hp => ?_)
  obtain ⟨rfl, rfl⟩ := hp
  dsimp only [Option.toList, List.cons_append, List.nil_append]
  have he := eq_state hR hI.1 (zs (i + 1).toNat)
  have hn : LI g σ ρ := ⟨q, hI, hR⟩
  refine l_eq C dL_law_425 (tgt := 635) (by decide) he ?_
  exact K _ _ hn
set_option maxHeartbeats 4000000 in
set_option maxRecDepth 100000 in
theorem lc_10 (C : LF p s m meth c bb L zs D ad1 ad2 g) (hg : GG g) (hnp : g.2.1 = 2 ^ g.1) (hL : L ≤ 2564) (hRc : cn ≤ 600000 ∧ sl ≤ 7302250) (hLI : LI g σ ρ) (i : Int) (hi : 4 ≤ i ∧ i + 5 ≤ L) (K : ∀ σ' ρ' : St, LI g σ' ρ' → LZ p l e s m bb below meth c D ad1 ad2 g σ' ρ' cn sl 635 [(3, vi i), (2, .ref (ad2 0)), (1, .ref (ad1 0)), (0, .ref bb)] []) : LZ p l e s m bb below meth c D ad1 ad2 g σ ρ cn sl 430 [(3, vi i), (2, .ref (ad2 0)), (1, .ref (ad1 0)), (0, .ref bb)] [] := by
  obtain ⟨q, hI, hR⟩ := hLI
  have hql : 0 ≤ ρ 0 22 ∧ ρ 0 22 ≤ 12 := by
    have h1 := hR.ql.1
    have h2 := hR.ql.2.1
    omega
  refine l_aload_n C dL_law_430 rfl rfl ?_
  refine l_aload_n C dL_law_431 rfl rfl ?_
  refine l_iload_n C dL_law_432 rfl rfl ?_
  refine l_iconst C dL_law_433 ?_
  refine l_iadd C dL_law_434 ?_
  refine l_sld C dL_law_435 (by omega) (by omega) ?_
  refine l_callK C (nn := 1) (c_jobResult hg σ hI.1.stt (zs (i + 1).toNat) (C.2.2.2.2.2.2.2.2.1.2.2 _)) g_RL_67 rfl (by decide +kernel) ⟨Nat.le_of_ble_eq_true rfl, Nat.le_of_ble_eq_true rfl⟩ hRc rfl rfl rfl (Nat.le_of_ble_eq_true rfl) dL_law_436 (fun v σ1 hp => ?_)
  obtain ⟨rfl, rfl⟩ := hp
  dsimp only [Option.toList, List.cons_append, List.nil_append]
  refine l_aload_n C dL_law_439 rfl rfl ?_
  refine l_aload_n C dL_law_440 rfl rfl ?_
  refine l_iload_n C dL_law_441 rfl rfl ?_
  refine l_iconst C dL_law_442 ?_
  refine l_iadd C dL_law_443 ?_
  refine l_sld C dL_law_444 (by omega) (by omega) ?_
  refine l_callR C (nn := 1) (r_jobResult hg ρ hR.rs (hR.rf hI.1) (zs (i + 1).toNat) (C.2.2.2.2.2.2.2.2.1.2.2 _)) g_RL_70 rfl (by decide +kernel) ⟨Nat.le_of_ble_eq_true rfl, Nat.le_of_ble_eq_true rfl⟩ hRc rfl rfl rfl (Nat.le_of_ble_eq_true rfl) dL_law_445 (fun v ρ1 hp => ?_)
  obtain ⟨rfl, rfl⟩ := hp
  dsimp only [Option.toList, List.cons_append, List.nil_append]
  have he := eq_result hR hI.1 (zs (i + 1).toNat)
  have hn : LI g σ ρ := ⟨q, hI, hR⟩
  refine l_eq C dL_law_448 (tgt := 635) (by decide) he ?_
  exact K _ _ hn
set_option maxHeartbeats 4000000 in
set_option maxRecDepth 100000 in
theorem lc_11 (C : LF p s m meth c bb L zs D ad1 ad2 g) (hg : GG g) (hnp : g.2.1 = 2 ^ g.1) (hL : L ≤ 2564) (hRc : cn ≤ 600000 ∧ sl ≤ 7302250) (hLI : LI g σ ρ) (i : Int) (hi : 4 ≤ i ∧ i + 5 ≤ L) (K : ∀ σ' ρ' : St, LI g σ' ρ' → LZ p l e s m bb below meth c D ad1 ad2 g σ' ρ' cn sl 635 [(3, vi i), (2, .ref (ad2 0)), (1, .ref (ad1 0)), (0, .ref bb)] []) : LZ p l e s m bb below meth c D ad1 ad2 g σ ρ cn sl 453 [(3, vi i), (2, .ref (ad2 0)), (1, .ref (ad1 0)), (0, .ref bb)] [] := by
  obtain ⟨q, hI, hR⟩ := hLI
  have hql : 0 ≤ ρ 0 22 ∧ ρ 0 22 ≤ 12 := by
    have h1 := hR.ql.1
    have h2 := hR.ql.2.1
    omega
  refine l_aload_n C dL_law_453 rfl rfl ?_
  refine l_aload_n C dL_law_454 rfl rfl ?_
  refine l_iload_n C dL_law_455 rfl rfl ?_
  refine l_iconst C dL_law_456 ?_
  refine l_iadd C dL_law_457 ?_
  refine l_sld C dL_law_458 (by omega) (by omega) ?_
  refine l_callK C (nn := 1) (c_workLeft hg σ hI.1.stt (zs (i + 1).toNat) (C.2.2.2.2.2.2.2.2.1.2.2 _)) g_RL_71 rfl (by decide +kernel) ⟨Nat.le_of_ble_eq_true rfl, Nat.le_of_ble_eq_true rfl⟩ hRc rfl rfl rfl (Nat.le_of_ble_eq_true rfl) dL_law_459 (fun v σ1 hp => ?_)
  obtain ⟨rfl, rfl⟩ := hp
  dsimp only [Option.toList, List.cons_append, List.nil_append]
  refine l_aload_n C dL_law_462 rfl rfl ?_
  refine l_aload_n C dL_law_463 rfl rfl ?_
  refine l_iload_n C dL_law_464 rfl rfl ?_
  refine l_iconst C dL_law_465 ?_
  refine l_iadd C dL_law_466 ?_
  refine l_sld C dL_law_467 (by omega) (by omega) ?_
  refine l_callR C (nn := 1) (r_workLeft hg ρ hR.rs (hR.rf hI.1) (zs (i + 1).toNat) (C.2.2.2.2.2.2.2.2.1.2.2 _)) g_RL_75 rfl (by decide +kernel) ⟨Nat.le_of_ble_eq_true rfl, Nat.le_of_ble_eq_true rfl⟩ hRc rfl rfl rfl (Nat.le_of_ble_eq_true rfl) dL_law_468 (fun v ρ1 hp => ?_)
  obtain ⟨rfl, rfl⟩ := hp
  dsimp only [Option.toList, List.cons_append, List.nil_append]
  have he := eq_work hR hI.1 (zs (i + 1).toNat)
  have hn : LI g σ ρ := ⟨q, hI, hR⟩
  refine l_leq C dL_law_471 dL_law_472 (tgt := 635) (by decide) he ?_
  exact K _ _ hn
set_option maxHeartbeats 4000000 in
set_option maxRecDepth 100000 in
theorem lc_12 (C : LF p s m meth c bb L zs D ad1 ad2 g) (hg : GG g) (hnp : g.2.1 = 2 ^ g.1) (hL : L ≤ 2564) (hRc : cn ≤ 600000 ∧ sl ≤ 7302250) (hLI : LI g σ ρ) (i : Int) (hi : 4 ≤ i ∧ i + 5 ≤ L) (K : ∀ σ' ρ' : St, LI g σ' ρ' → LZ p l e s m bb below meth c D ad1 ad2 g σ' ρ' cn sl 635 [(3, vi i), (2, .ref (ad2 0)), (1, .ref (ad1 0)), (0, .ref bb)] []) : LZ p l e s m bb below meth c D ad1 ad2 g σ ρ cn sl 477 [(3, vi i), (2, .ref (ad2 0)), (1, .ref (ad1 0)), (0, .ref bb)] [] := by
  obtain ⟨q, hI, hR⟩ := hLI
  have hql : 0 ≤ ρ 0 22 ∧ ρ 0 22 ≤ 12 := by
    have h1 := hR.ql.1
    have h2 := hR.ql.2.1
    omega
  refine l_aload_n C dL_law_477 rfl rfl ?_
  refine l_aload_n C dL_law_478 rfl rfl ?_
  refine l_iload_n C dL_law_479 rfl rfl ?_
  refine l_iconst C dL_law_480 ?_
  refine l_iadd C dL_law_481 ?_
  refine l_sld C dL_law_482 (by omega) (by omega) ?_
  refine l_callK C (nn := 1) (c_cancel hg hnp σ hI.1.mi hI.1.cn hI.1.flg hI.1.stt q hI.2.1 (hI.qr hg) (hI.1.cp hg hnp) (zs (i + 1).toNat) (C.2.2.2.2.2.2.2.2.1.2.2 _)) g_RL_76 rfl (by decide +kernel) ⟨Nat.le_of_ble_eq_true rfl, Nat.le_of_ble_eq_true rfl⟩ hRc rfl rfl rfl (Nat.le_of_ble_eq_true rfl) dL_law_483 (fun v σ1 hp => ?_)
  obtain ⟨z0, rfl, hk⟩ : ∃ z0 : Int, v = some (vi z0) ∧ canK g σ σ1 q (zs (i + 1).toNat) z0 := by
    rcases hp with ⟨a, b, d⟩ | ⟨b, d⟩
    · exact ⟨0, b, Or.inl ⟨a, rfl, d⟩⟩
    · exact ⟨1, b, Or.inr ⟨rfl, d⟩⟩
  dsimp only [Option.toList, List.cons_append, List.nil_append]
  refine l_aload_n C dL_law_486 rfl rfl ?_
  refine l_aload_n C dL_law_487 rfl rfl ?_
  refine l_iload_n C dL_law_488 rfl rfl ?_
  refine l_iconst C dL_law_489 ?_
  refine l_iadd C dL_law_490 ?_
  refine l_sld C dL_law_491 (by omega) (by omega) ?_
  refine l_callR C (nn := 1) (r_cancel hg hnp ρ hR.rs (hR.rf hI.1) (hR.r18 hI.1 hg) (hR.ag.mi hg.2.1 hI.1.mi) q hR.ql (hI.qr hg) (CPr.of hR hI.1 hg hnp) (zs (i + 1).toNat) (C.2.2.2.2.2.2.2.2.1.2.2 _)) g_RL_79 rfl (by decide +kernel) ⟨Nat.le_of_ble_eq_true rfl, Nat.le_of_ble_eq_true rfl⟩ hRc rfl rfl rfl (Nat.le_of_ble_eq_true rfl) dL_law_492 (fun v ρ1 hp => ?_)
  obtain ⟨z1, rfl, hr⟩ : ∃ z0 : Int, v = some (vi z0) ∧ canR g ρ ρ1 q (zs (i + 1).toNat) z0 := by
    rcases hp with ⟨a, b, d⟩ | ⟨b, d⟩
    · exact ⟨0, b, Or.inl ⟨a, rfl, d⟩⟩
    · exact ⟨1, b, Or.inr ⟨rfl, d⟩⟩
  dsimp only [Option.toList, List.cons_append, List.nil_append]
  obtain ⟨he, hn⟩ := pr_cancel hI hR hg hnp hk hr
  refine l_eq C dL_law_495 (tgt := 635) (by decide) he ?_
  exact K _ _ hn
set_option maxHeartbeats 4000000 in
set_option maxRecDepth 100000 in
theorem lc_13 (C : LF p s m meth c bb L zs D ad1 ad2 g) (hg : GG g) (hnp : g.2.1 = 2 ^ g.1) (hL : L ≤ 2564) (hRc : cn ≤ 600000 ∧ sl ≤ 7302250) (hLI : LI g σ ρ) (i : Int) (hi : 4 ≤ i ∧ i + 5 ≤ L) (K : ∀ σ' ρ' : St, LI g σ' ρ' → LZ p l e s m bb below meth c D ad1 ad2 g σ' ρ' cn sl 635 [(3, vi i), (2, .ref (ad2 0)), (1, .ref (ad1 0)), (0, .ref bb)] []) : LZ p l e s m bb below meth c D ad1 ad2 g σ ρ cn sl 500 [(3, vi i), (2, .ref (ad2 0)), (1, .ref (ad1 0)), (0, .ref bb)] [] := by
  obtain ⟨q, hI, hR⟩ := hLI
  have hql : 0 ≤ ρ 0 22 ∧ ρ 0 22 ≤ 12 := by
    have h1 := hR.ql.1
    have h2 := hR.ql.2.1
    omega
  refine l_aload_n C dL_law_500 rfl rfl ?_
  refine l_aload_n C dL_law_501 rfl rfl ?_
  refine l_iload_n C dL_law_502 rfl rfl ?_
  refine l_iconst C dL_law_503 ?_
  refine l_iadd C dL_law_504 ?_
  refine l_sld C dL_law_505 (by omega) (by omega) ?_
  refine l_callK C (nn := 1) (c_forget hg σ hI.1.stt (zs (i + 1).toNat) (C.2.2.2.2.2.2.2.2.1.2.2 _)) g_RL_80 rfl (by decide +kernel) ⟨Nat.le_of_ble_eq_true rfl, Nat.le_of_ble_eq_true rfl⟩ hRc rfl rfl rfl (Nat.le_of_ble_eq_true rfl) dL_law_506 (fun v σ1 hp => ?_)
  obtain ⟨z0, rfl, hk⟩ : ∃ z0 : Int, v = some (vi z0) ∧ forK g σ σ1 (zs (i + 1).toNat) z0 := by
    rcases hp with ⟨a, b, d⟩ | ⟨b, d⟩
    · exact ⟨0, b, Or.inl ⟨a, rfl, d⟩⟩
    · exact ⟨1, b, Or.inr ⟨rfl, d⟩⟩
  dsimp only [Option.toList, List.cons_append, List.nil_append]
  refine l_aload_n C dL_law_509 rfl rfl ?_
  refine l_aload_n C dL_law_510 rfl rfl ?_
  refine l_iload_n C dL_law_511 rfl rfl ?_
  refine l_iconst C dL_law_512 ?_
  refine l_iadd C dL_law_513 ?_
  refine l_sld C dL_law_514 (by omega) (by omega) ?_
  refine l_callR C (nn := 1) (r_forget hg ρ hR.rs (hR.rf hI.1) (zs (i + 1).toNat) (C.2.2.2.2.2.2.2.2.1.2.2 _)) g_RL_83 rfl (by decide +kernel) ⟨Nat.le_of_ble_eq_true rfl, Nat.le_of_ble_eq_true rfl⟩ hRc rfl rfl rfl (Nat.le_of_ble_eq_true rfl) dL_law_515 (fun v ρ1 hp => ?_)
  obtain ⟨z1, rfl, hr⟩ : ∃ z0 : Int, v = some (vi z0) ∧ forR g ρ ρ1 (zs (i + 1).toNat) z0 := by
    rcases hp with ⟨a, b, d⟩ | ⟨b, d⟩
    · exact ⟨0, b, Or.inl ⟨a, rfl, d⟩⟩
    · exact ⟨1, b, Or.inr ⟨rfl, d⟩⟩
  dsimp only [Option.toList, List.cons_append, List.nil_append]
  obtain ⟨he, hn⟩ := pr_forget hI hR hg hk hr
  refine l_eq C dL_law_518 (tgt := 635) (by decide) he ?_
  exact K _ _ hn
set_option maxHeartbeats 4000000 in
set_option maxRecDepth 100000 in
theorem lc_14 (C : LF p s m meth c bb L zs D ad1 ad2 g) (hg : GG g) (hnp : g.2.1 = 2 ^ g.1) (hL : L ≤ 2564) (hRc : cn ≤ 600000 ∧ sl ≤ 7302250) (hLI : LI g σ ρ) (i : Int) (hi : 4 ≤ i ∧ i + 5 ≤ L) (K : ∀ σ' ρ' : St, LI g σ' ρ' → LZ p l e s m bb below meth c D ad1 ad2 g σ' ρ' cn sl 635 [(3, vi i), (2, .ref (ad2 0)), (1, .ref (ad1 0)), (0, .ref bb)] []) : LZ p l e s m bb below meth c D ad1 ad2 g σ ρ cn sl 523 [(3, vi i), (2, .ref (ad2 0)), (1, .ref (ad1 0)), (0, .ref bb)] [] := by
  obtain ⟨q, hI, hR⟩ := hLI
  have hql : 0 ≤ ρ 0 22 ∧ ρ 0 22 ≤ 12 := by
    have h1 := hR.ql.1
    have h2 := hR.ql.2.1
    omega
  refine l_aload_n C dL_law_523 rfl rfl ?_
  refine l_callK C (nn := 0) (c_freeCells hg σ) g_RL_84 rfl (by decide +kernel) ⟨Nat.le_of_ble_eq_true rfl, Nat.le_of_ble_eq_true rfl⟩ hRc rfl rfl rfl (Nat.le_of_ble_eq_true rfl) dL_law_524 (fun v σ1 hp => ?_)
  obtain ⟨rfl, rfl⟩ := hp
  dsimp only [Option.toList, List.cons_append, List.nil_append]
  refine l_aload_n C dL_law_527 rfl rfl ?_
  refine l_callR C (nn := 0) (r_freeCells hg hnp ρ hR.rs (hR.ag.mi hg.2.1 hI.1.mi)) g_RL_87 rfl (by decide +kernel) ⟨Nat.le_of_ble_eq_true rfl, Nat.le_of_ble_eq_true rfl⟩ hRc rfl rfl rfl (Nat.le_of_ble_eq_true rfl) dL_law_528 (fun v ρ1 hp => ?_)
  obtain ⟨rfl, rfl⟩ := hp
  dsimp only [Option.toList, List.cons_append, List.nil_append]
  have he := freeCells_eq hnp hI.1.mi hI.1.cn hR.ag
  have hn : LI g σ ρ := ⟨q, hI, hR⟩
  refine l_eq C dL_law_531 (tgt := 635) (by decide) he ?_
  exact K _ _ hn
set_option maxHeartbeats 4000000 in
set_option maxRecDepth 100000 in
theorem lc_15 (C : LF p s m meth c bb L zs D ad1 ad2 g) (hg : GG g) (hnp : g.2.1 = 2 ^ g.1) (hL : L ≤ 2564) (hRc : cn ≤ 600000 ∧ sl ≤ 7302250) (hLI : LI g σ ρ) (i : Int) (hi : 4 ≤ i ∧ i + 5 ≤ L) (K : ∀ σ' ρ' : St, LI g σ' ρ' → LZ p l e s m bb below meth c D ad1 ad2 g σ' ρ' cn sl 635 [(3, vi i), (2, .ref (ad2 0)), (1, .ref (ad1 0)), (0, .ref bb)] []) : LZ p l e s m bb below meth c D ad1 ad2 g σ ρ cn sl 536 [(3, vi i), (2, .ref (ad2 0)), (1, .ref (ad1 0)), (0, .ref bb)] [] := by
  obtain ⟨q, hI, hR⟩ := hLI
  have hql : 0 ≤ ρ 0 22 ∧ ρ 0 22 ≤ 12 := by
    have h1 := hR.ql.1
    have h2 := hR.ql.2.1
    omega
  refine l_aload_n C dL_law_536 rfl rfl ?_
  refine l_aload_n C dL_law_537 rfl rfl ?_
  refine l_iload_n C dL_law_538 rfl rfl ?_
  refine l_iconst C dL_law_539 ?_
  refine l_iadd C dL_law_540 ?_
  refine l_sld C dL_law_541 (by omega) (by omega) ?_
  refine l_aload_n C dL_law_542 rfl rfl ?_
  refine l_iload_n C dL_law_543 rfl rfl ?_
  refine l_iconst C dL_law_544 ?_
  refine l_iadd C dL_law_545 ?_
  refine l_sld C dL_law_546 (by omega) (by omega) ?_
  refine l_callK C (nn := 2) (c_freeBlock hg hnp σ hI.1.mi hI.1.cn (zs (i + 1).toNat) (zs (i + 2).toNat) (C.2.2.2.2.2.2.2.2.1.2.2 _) (C.2.2.2.2.2.2.2.2.1.2.2 _)) g_RL_88 rfl (by decide +kernel) ⟨Nat.le_of_ble_eq_true rfl, Nat.le_of_ble_eq_true rfl⟩ hRc rfl rfl rfl (Nat.le_of_ble_eq_true rfl) dL_law_547 (fun v σ1 hp => ?_)
  obtain ⟨rfl, z0, rfl, hk⟩ := hp
  dsimp only [Option.toList, List.cons_append, List.nil_append]
  refine l_aload_n C dL_law_550 rfl rfl ?_
  refine l_aload_n C dL_law_551 rfl rfl ?_
  refine l_iload_n C dL_law_552 rfl rfl ?_
  refine l_iconst C dL_law_553 ?_
  refine l_iadd C dL_law_554 ?_
  refine l_sld C dL_law_555 (by omega) (by omega) ?_
  refine l_aload_n C dL_law_556 rfl rfl ?_
  refine l_iload_n C dL_law_557 rfl rfl ?_
  refine l_iconst C dL_law_558 ?_
  refine l_iadd C dL_law_559 ?_
  refine l_sld C dL_law_560 (by omega) (by omega) ?_
  refine l_callR C (nn := 2) (r_freeBlock hg hnp ρ hR.rs (hR.ag.mi hg.2.1 hI.1.mi) (zs (i + 1).toNat) (zs (i + 2).toNat) (C.2.2.2.2.2.2.2.2.1.2.2 _) (C.2.2.2.2.2.2.2.2.1.2.2 _)) g_RL_91 rfl (by decide +kernel) ⟨Nat.le_of_ble_eq_true rfl, Nat.le_of_ble_eq_true rfl⟩ hRc rfl rfl rfl (Nat.le_of_ble_eq_true rfl) dL_law_561 (fun v ρ1 hp => ?_)
  obtain ⟨rfl, z1, rfl, hr⟩ := hp
  dsimp only [Option.toList, List.cons_append, List.nil_append]
  have he := fb_eq hnp hR.ag hk hr
  have hn : LI g σ ρ := ⟨q, hI, hR⟩
  refine l_eq C dL_law_564 (tgt := 635) (by decide) he ?_
  exact K _ _ hn
set_option maxHeartbeats 4000000 in
set_option maxRecDepth 100000 in
theorem lc_16 (C : LF p s m meth c bb L zs D ad1 ad2 g) (hg : GG g) (hnp : g.2.1 = 2 ^ g.1) (hL : L ≤ 2564) (hRc : cn ≤ 600000 ∧ sl ≤ 7302250) (hLI : LI g σ ρ) (i : Int) (hi : 4 ≤ i ∧ i + 5 ≤ L) (K : ∀ σ' ρ' : St, LI g σ' ρ' → LZ p l e s m bb below meth c D ad1 ad2 g σ' ρ' cn sl 635 [(3, vi i), (2, .ref (ad2 0)), (1, .ref (ad1 0)), (0, .ref bb)] []) : LZ p l e s m bb below meth c D ad1 ad2 g σ ρ cn sl 569 [(3, vi i), (2, .ref (ad2 0)), (1, .ref (ad1 0)), (0, .ref bb)] [] := by
  obtain ⟨q, hI, hR⟩ := hLI
  have hql : 0 ≤ ρ 0 22 ∧ ρ 0 22 ≤ 12 := by
    have h1 := hR.ql.1
    have h2 := hR.ql.2.1
    omega
  refine l_aload_n C dL_law_569 rfl rfl ?_
  refine l_aload_n C dL_law_570 rfl rfl ?_
  refine l_iload_n C dL_law_571 rfl rfl ?_
  refine l_iconst C dL_law_572 ?_
  refine l_iadd C dL_law_573 ?_
  refine l_sld C dL_law_574 (by omega) (by omega) ?_
  refine l_aload_n C dL_law_575 rfl rfl ?_
  refine l_iload_n C dL_law_576 rfl rfl ?_
  refine l_iconst C dL_law_577 ?_
  refine l_iadd C dL_law_578 ?_
  refine l_sld C dL_law_579 (by omega) (by omega) ?_
  refine l_callK C (nn := 2) (c_number hg σ hI.1.flg (zs (i + 1).toNat) (zs (i + 2).toNat) (C.2.2.2.2.2.2.2.2.1.2.2 _) (C.2.2.2.2.2.2.2.2.1.2.2 _)) g_RL_92 rfl (by decide +kernel) ⟨Nat.le_of_ble_eq_true rfl, Nat.le_of_ble_eq_true rfl⟩ hRc rfl rfl rfl (Nat.le_of_ble_eq_true rfl) dL_law_580 (fun v σ1 hp => ?_)
  obtain ⟨rfl, rfl⟩ := hp
  dsimp only [Option.toList, List.cons_append, List.nil_append]
  refine l_aload_n C dL_law_583 rfl rfl ?_
  refine l_aload_n C dL_law_584 rfl rfl ?_
  refine l_iload_n C dL_law_585 rfl rfl ?_
  refine l_iconst C dL_law_586 ?_
  refine l_iadd C dL_law_587 ?_
  refine l_sld C dL_law_588 (by omega) (by omega) ?_
  refine l_aload_n C dL_law_589 rfl rfl ?_
  refine l_iload_n C dL_law_590 rfl rfl ?_
  refine l_iconst C dL_law_591 ?_
  refine l_iadd C dL_law_592 ?_
  refine l_sld C dL_law_593 (by omega) (by omega) ?_
  refine l_callR C (nn := 2) (r_number hg ρ hR.rs (hR.rf hI.1) (zs (i + 1).toNat) (zs (i + 2).toNat) (C.2.2.2.2.2.2.2.2.1.2.2 _) (C.2.2.2.2.2.2.2.2.1.2.2 _)) g_RL_95 rfl (by decide +kernel) ⟨Nat.le_of_ble_eq_true rfl, Nat.le_of_ble_eq_true rfl⟩ hRc rfl rfl rfl (Nat.le_of_ble_eq_true rfl) dL_law_594 (fun v ρ1 hp => ?_)
  obtain ⟨rfl, rfl⟩ := hp
  dsimp only [Option.toList, List.cons_append, List.nil_append]
  have he := eq_number hR (zs (i + 1).toNat) (zs (i + 2).toNat)
  have hn : LI g σ ρ := ⟨q, hI, hR⟩
  refine l_eq C dL_law_597 (tgt := 635) (by decide) he ?_
  exact K _ _ hn
set_option maxHeartbeats 4000000 in
set_option maxRecDepth 100000 in
theorem lc_17 (C : LF p s m meth c bb L zs D ad1 ad2 g) (hg : GG g) (hnp : g.2.1 = 2 ^ g.1) (hL : L ≤ 2564) (hRc : cn ≤ 600000 ∧ sl ≤ 7302250) (hLI : LI g σ ρ) (i : Int) (hi : 4 ≤ i ∧ i + 5 ≤ L) (K : ∀ σ' ρ' : St, LI g σ' ρ' → LZ p l e s m bb below meth c D ad1 ad2 g σ' ρ' cn sl 635 [(3, vi i), (2, .ref (ad2 0)), (1, .ref (ad1 0)), (0, .ref bb)] []) : LZ p l e s m bb below meth c D ad1 ad2 g σ ρ cn sl 602 [(3, vi i), (2, .ref (ad2 0)), (1, .ref (ad1 0)), (0, .ref bb)] [] := by
  obtain ⟨q, hI, hR⟩ := hLI
  have hql : 0 ≤ ρ 0 22 ∧ ρ 0 22 ≤ 12 := by
    have h1 := hR.ql.1
    have h2 := hR.ql.2.1
    omega
  refine l_aload_n C dL_law_602 rfl rfl ?_
  refine l_aload_n C dL_law_603 rfl rfl ?_
  refine l_iload_n C dL_law_604 rfl rfl ?_
  refine l_iconst C dL_law_605 ?_
  refine l_iadd C dL_law_606 ?_
  refine l_sld C dL_law_607 (by omega) (by omega) ?_
  refine l_aload_n C dL_law_608 rfl rfl ?_
  refine l_iload_n C dL_law_609 rfl rfl ?_
  refine l_iconst C dL_law_610 ?_
  refine l_iadd C dL_law_611 ?_
  refine l_sld C dL_law_612 (by omega) (by omega) ?_
  refine l_callK C (nn := 2) (c_count hg σ q hI.2.1 (zs (i + 1).toNat) (zs (i + 2).toNat) (C.2.2.2.2.2.2.2.2.1.2.2 _) (C.2.2.2.2.2.2.2.2.1.2.2 _)) g_RL_96 rfl (by decide +kernel) ⟨Nat.le_of_ble_eq_true rfl, Nat.le_of_ble_eq_true rfl⟩ hRc rfl rfl rfl (Nat.le_of_ble_eq_true rfl) dL_law_613 (fun v σ1 hp => ?_)
  obtain ⟨rfl, rfl⟩ := hp
  dsimp only [Option.toList, List.cons_append, List.nil_append]
  refine l_aload_n C dL_law_616 rfl rfl ?_
  refine l_aload_n C dL_law_617 rfl rfl ?_
  refine l_iload_n C dL_law_618 rfl rfl ?_
  refine l_iconst C dL_law_619 ?_
  refine l_iadd C dL_law_620 ?_
  refine l_sld C dL_law_621 (by omega) (by omega) ?_
  refine l_aload_n C dL_law_622 rfl rfl ?_
  refine l_iload_n C dL_law_623 rfl rfl ?_
  refine l_iconst C dL_law_624 ?_
  refine l_iadd C dL_law_625 ?_
  refine l_sld C dL_law_626 (by omega) (by omega) ?_
  refine l_callR C (nn := 2) (r_count hg ρ (hR.rf hI.1) hql (zs (i + 1).toNat) (zs (i + 2).toNat) (C.2.2.2.2.2.2.2.2.1.2.2 _) (C.2.2.2.2.2.2.2.2.1.2.2 _)) g_RL_99 rfl (by decide +kernel) ⟨Nat.le_of_ble_eq_true rfl, Nat.le_of_ble_eq_true rfl⟩ hRc rfl rfl rfl (Nat.le_of_ble_eq_true rfl) dL_law_627 (fun v ρ1 hp => ?_)
  obtain ⟨rfl, rfl⟩ := hp
  dsimp only [Option.toList, List.cons_append, List.nil_append]
  have he := eq_count hR hI.1 hg (zs (i + 1).toNat) (zs (i + 2).toNat)
  have hn : LI g σ ρ := ⟨q, hI, hR⟩
  refine l_eq C dL_law_630 (tgt := 635) (by decide) he ?_
  exact K _ _ hn
end LCS
