set_option maxHeartbeats 4000000 in
set_option maxRecDepth 100000 in
theorem rp_divT {p : Program} {l : Launch} {e : Env} {R : Room} {s : State} {m : MethodId} {args : Array Value} {below : List Frame} {meth : Method} {c : Code} {D : va_G} {ad : Nat → Nat} {Q : State → Prop} (C : Fx p s m args meth c D ad cX6_divide 5 none yX6_divide.cls tb) (ρ : St) (N0 : Nat) (hN : N0 ≤ 4200) (hL : ∀ q, q < N0 → 0 ≤ ρ 24 q ∧ ρ 24 q < 2147483648) (lv : List (Nat × Value)) (l0 : lk 0 lv = some (.ref (ad 0))) (K : ∀ un : Nat, un ≤ N0 → (∀ q, un ≤ q → q < N0 → ρ 24 q = 0) → (0 < un → ρ 24 (un - 1) ≠ 0) → X p l e R s m args below meth c D ad 5 Q (rc D ad (up ρ 0 29 (un : Int))) 361 lv []) (n i : Nat) (hn : i < n) (hi : i ≤ N0) (hz : ∀ q, i ≤ q → q < N0 → ρ 24 q = 0) (ρ1 : St) (e1 : ρ1 = up ρ 0 29 (i : Int)) : X p l e R s m args below meth c D ad 5 Q (rc D ad ρ1) 327 lv [] := by
  induction n generalizing i ρ1 with
  | zero => omega
  | succ n ih =>
  refine x_aload_n C dX6_divide_327 rfl l0 ?_
  refine x_get C (Cn := RX6) (T := TX6) (N := 33) (ci := 6) 29 dX6_divide_328 m_w_6 m_f_RX6_179 rfl (by decide) rfl rfl ?_
  have f29 : ρ1 0 29 = (i : Int) := by rw [e1, up_s, zup_s]
  have f24 : ρ1 24 = ρ 24 := by rw [e1, up_n (by decide)]
  rw [f29]
  refine x_if_le (tgt := 361) C dX6_divide_331 (by decide) (by omega) (fun c_331 => ?_) (fun c_331 => ?_)
  · obtain rfl : i = 0 := by omega
    rw [e1]
    exact K 0 (by omega) hz (fun q => by omega)
  · obtain ⟨i, rfl⟩ : ∃ i1, i = i1 + 1 := ⟨i - 1, by omega⟩
    have hl := hL i (by omega)
    refine x_aload_n C dX6_divide_334 rfl l0 ?_
    refine x_get C (Cn := RX6) (T := TX6) (N := 33) (ci := 6) 24 dX6_divide_335 m_w_6 m_f_RX6_66 rfl (by decide) rfl rfl ?_
    refine x_aload_n C dX6_divide_338 rfl l0 ?_
    refine x_get C (Cn := RX6) (T := TX6) (N := 33) (ci := 6) 29 dX6_divide_339 m_w_6 m_f_RX6_179 rfl (by decide) rfl rfl ?_
    rw [f29]
    refine x_iconst C dX6_divide_342 ?_
    refine x_isub C dX6_divide_343 ?_
    refine x_iald C dX6_divide_344 rfl (by omega) (by omega) ?_
    rw [show (((i + 1 : Nat) : Int) - 1).toNat = i by omega, f24]
    refine x_if_ne (tgt := 361) C dX6_divide_345 (by decide) (by omega) (fun c_345 => ?_) (fun c_345 => ?_)
    · rw [e1]
      exact K (i + 1) hi hz (fun _ => by rw [Nat.add_sub_cancel]; exact c_345)
    · refine x_aload_n C dX6_divide_348 rfl l0 ?_
      refine x_dup C dX6_divide_349 rfl ?_
      refine x_get C (Cn := RX6) (T := TX6) (N := 33) (ci := 6) 29 dX6_divide_350 m_w_6 m_f_RX6_179 rfl (by decide) rfl rfl ?_
      refine x_iconst C dX6_divide_353 ?_
      refine x_isub C dX6_divide_354 ?_
      refine r_put C 29 (by decide) (by decide) dX6_divide_355 m_f_RX6_179 rfl (by decide +kernel) ?_
      refine x_goto (tgt := 327) C dX6_divide_358 (by decide) ?_
      rw [f29, show ((i + 1 : Nat) : Int) - 1 = (i : Int) by omega]
      exact ih i (by omega) (by omega) (fun q h1 h2 => if c : q = i then by rw [c]; omega else hz q (by omega) h2) _ (by rw [e1, up_up])
/-- a top limb that is moved to the left's end -/
theorem tp_lt {x : Int} {s : Nat} (hs : s ≤ 31) (h : x * 2 ^ s < 2147483648) : x < 2 ^ (31 - s) := by
  have hp := p31 hs
  rcases Int.lt_or_le x (2 ^ (31 - s)) with c | c
  · exact c
  · have := Int.mul_le_mul_of_nonneg_right c (show (0 : Int) ≤ 2 ^ s by have := zp_pos s; omega); omega
theorem dv_same {U V Q R : Int} {s : Nat} (hV : 0 < V) (h : U * 2 ^ s = Q * (V * 2 ^ s) + R) (hR : 0 ≤ R ∧ R < V * 2 ^ s) : Q = U / V ∧ R = U % V * 2 ^ s := by
  have hp := zp_pos s
  have hV' : 0 < V * 2 ^ s := Int.mul_pos hV hp
  have m1 := Int.mul_ediv_add_emod U V
  have m2 := Int.emod_nonneg U (show V ≠ 0 by omega)
  have m3 := Int.emod_lt_of_pos U hV
  have a1 := (Int.ediv_emod_unique hV' (a := U * 2 ^ s) (q := Q) (r := R)).mpr ⟨by rw [Int.mul_comm (V * 2 ^ s)]; omega, hR.1, hR.2⟩
  have a2 := (Int.ediv_emod_unique hV' (a := U * 2 ^ s) (q := U / V) (r := U % V * 2 ^ s)).mpr ⟨by
      have := congrArg (fun z => z * (2 : Int) ^ s) m1
      simp only [Int.add_mul] at this
      rw [Int.mul_assoc, Int.mul_comm (2 ^ s) (U / V), ← Int.mul_assoc]
      omega, Int.mul_nonneg m2 (by omega), Int.mul_lt_mul_of_pos_right m3 hp⟩
  exact ⟨a1.1.symm.trans a2.1, a1.2.symm.trans a2.2⟩
def DVP (ρ ρ' : St) (un vn : Nat) : Prop := (un < vn ∧ ρ = ρ') ∨ (vn ≤ un ∧ ∃ rn : Nat, rn ≤ vn ∧ ρ' 0 = zup (ρ 0) 29 (rn : Int) ∧ (∀ q, q ≠ 0 → q ≠ 24 → q ≠ 25 → q ≠ 26 → ρ' q = ρ q) ∧ (∀ i, i < vn → ρ' 25 i = ρ 25 i) ∧ NRM (ρ' 24) rn ∧ nv (ρ' 24) 0 rn = nv (ρ 24) 0 un % nv (ρ 25) 0 vn ∧ (∀ i, i < un + 1 - vn → 0 ≤ ρ' 26 i ∧ ρ' 26 i < 2147483648) ∧ nv (ρ' 26) 0 (un + 1 - vn) = nv (ρ 24) 0 un / nv (ρ 25) 0 vn)
set_option maxHeartbeats 4000000 in
set_option maxRecDepth 100000 in
theorem r_divide {l : Launch} {D : va_G} {ad : Nat → Nat} (ρ : St) (un vn : Nat) (e29 : ρ 0 29 = un) (e30 : ρ 0 30 = vn) (hun : un < 4200) (hvn : 0 < vn ∧ vn ≤ 2100) (hU : NRM (ρ 24) un) (hV : NRM (ρ 25) vn) : Rt l D ad yX6_divide (Cond.code yX6_divide cX6_divide 5 none :: tb) 1 40 [.ref (ad 0)] ρ (fun v ρ' => v = none ∧ DVP ρ ρ' un vn) := by
  refine ct_of (by decide) rfl (Nat.le_of_ble_eq_true rfl) ?_
  intro p e s m below meth c C
  change X _ _ _ _ _ _ _ _ _ _ _ _ _ _ _ _ [(0, .ref (ad 0))] _
  refine x_aload_n C dX6_divide_0 rfl rfl ?_
  refine x_get C (Cn := RX6) (T := TX6) (N := 33) (ci := 6) 29 dX6_divide_1 m_w_6 m_f_RX6_179 rfl (by decide) rfl rfl ?_
  rw [e29]
  refine x_aload_n C dX6_divide_4 rfl rfl ?_
  refine x_get C (Cn := RX6) (T := TX6) (N := 33) (ci := 6) 30 dX6_divide_5 m_w_6 m_f_RX6_182 rfl (by decide) rfl rfl ?_
  rw [e30]
  refine x_icmp_ge (tgt := 12) C dX6_divide_8 (by decide) (by omega) (by omega) (fun c_8 => ?_) (fun c_8 => ?_)
  · have hvt := hV.1 (vn - 1) (by omega)
    have hvt0 := hV.2 hvn.1
    refine x_aload_n C dX6_divide_12 rfl rfl ?_
    refine x_callV C (ci := 6) (nn := 0) (r_shiftOfV ρ vn hvn e30 (by omega)) g_RX6_186 rfl (by decide +kernel) ⟨by first | decide | omega, by first | decide | omega⟩ rfl rfl rfl rfl rfl (Nat.le_of_ble_eq_true rfl) dX6_divide_13 (fun v h1 hp => ?_)
    obtain ⟨ρ1, rfl, rfl, s0, rfl, hs, hs1, hs2⟩ := hp
    refine x_istore_n C (lv' := [(1, _), (0, _)]) dX6_divide_16 rfl (by decide) rfl ?_
    refine x_aload_n C dX6_divide_17 rfl rfl ?_
    refine x_get C (Cn := RX6) (T := TX6) (N := 33) (ci := 6) 30 dX6_divide_18 m_w_6 m_f_RX6_182 rfl (by decide) rfl rfl ?_
    rw [e30]
    refine x_istore_n C (lv' := [(2, _), (1, _), (0, _)]) dX6_divide_21 rfl (by decide) rfl ?_
    refine x_aload_n C dX6_divide_22 rfl rfl ?_
    refine x_get C (Cn := RX6) (T := TX6) (N := 33) (ci := 6) 24 dX6_divide_23 m_w_6 m_f_RX6_66 rfl (by decide) rfl rfl ?_
    refine x_aload_n C dX6_divide_26 rfl rfl ?_
    refine x_get C (Cn := RX6) (T := TX6) (N := 33) (ci := 6) 29 dX6_divide_27 m_w_6 m_f_RX6_179 rfl (by decide) rfl rfl ?_
    rw [e29]
    refine x_iconst C dX6_divide_30 ?_
    refine r_ast C dX6_divide_31 (fun _ => rfl) (by omega) (by omega) ?_
    rw [Int.toNat_natCast]
    refine x_aload_n C dX6_divide_32 rfl rfl ?_
    refine x_get C (Cn := RX6) (T := TX6) (N := 33) (ci := 6) 29 dX6_divide_33 m_w_6 m_f_RX6_179 rfl (by decide) rfl rfl ?_
    rw [up_n (show 0 ≠ 24 by decide), e29]
    refine x_istore_n C (lv' := [(3, _), (2, _), (1, _), (0, _)]) dX6_divide_36 rfl (by decide) rfl ?_
    obtain ⟨f, ef⟩ : ∃ f, f = zup (ρ 24) un 0 := ⟨_, rfl⟩
    have hfun : f un = 0 := by rw [ef, zup_s]
    have hf : ∀ i, i < un + 1 → 0 ≤ f i ∧ f i < 2147483648 := by
      intro i hi
      by_cases c : i = un
      · rw [c, hfun]; decide
      · rw [ef, zup_n c]; exact hU.1 i (by omega)
    have hfn : nv f 0 (un + 1) = nv (ρ 24) 0 un := by
      rw [nv_s, Nat.zero_add, hfun, Int.zero_mul, Int.add_zero]
      exact nv_ext (fun i hi => by rw [ef, zup_n (by omega)])
    have hslU := sl_nv (s := s0) (by omega) hf
    rw [show cl f s0 (un + 1) = 0 by unfold cl; rw [if_neg (by omega), Nat.add_sub_cancel, hfun, Int.zero_ediv], Int.zero_mul, Int.add_zero, hfn] at hslU
    have hslV := sl_nv (s := s0) (by omega) hV.1
    have htl := tp_lt (by omega) hs2
    rw [show cl (ρ 25) s0 vn = 0 by unfold cl; rw [if_neg (by omega)]; exact Int.ediv_eq_zero_of_lt hvt.1 htl, Int.zero_mul, Int.add_zero] at hslV
    have hlV : lim (ρ 25) 0 vn := lim0 hV.1
    have hpz := zp_pos s0
    have hVp : 0 < nv (ρ 25) 0 vn := by
      have e := nv_s (ρ 25) 0 (vn - 1)
      rw [show vn - 1 + 1 = vn by omega, Nat.zero_add] at e
      have g1 := nv_ge (hlV.mono (show vn - 1 ≤ vn by omega))
      have g2 : 0 < ρ 25 (vn - 1) * 2147483648 ^ (vn - 1) := Int.mul_pos (by omega) (Int.pow_pos (by decide))
      omega
    have hsin := sl_in (s := s0) (by omega) hf
    have hsinV := sl_in (s := s0) (by omega) hV.1
    refine rp_shlU C (up ρ 24 un 0) un vn s0 hs hun f hf ?_ (un + 1) un (by omega) (by omega) _ (fun q hq => by rw [up_s, ef]) (fun q h1 h2 => by omega) (fun q hq => rfl) (fun q hq => rfl)
    intro ρ1 i3 a1 a2 a3
    have a25 : ρ1 25 = ρ 25 := by rw [a3 25 (by decide), up_n (by decide)]
    refine x_iload_n C dX6_divide_109 rfl rfl ?_
    refine x_iconst C dX6_divide_110 ?_
    refine x_isub C dX6_divide_111 ?_
    refine x_istore_n C (lv' := [(3, _), (2, _), (1, _), (0, _)]) dX6_divide_112 rfl (by decide) rfl ?_
    refine rp_shlV C ρ1 vn s0 hs hvn.2 (ρ 25) hV.1 ?_ (vn + 1) vn (by omega) (by omega) _ rfl ρ1 (fun q hq => by rw [a25]) (fun q h1 h2 => by omega) (fun q hq => rfl) (fun q hq => rfl)
    intro ρ2 i4 b1 b2 b3
    have b24 : ρ2 24 = ρ1 24 := b3 24 (by decide)
    have b0 : ρ2 0 = ρ 0 := by rw [b3 0 (by decide), a3 0 (by decide), up_n (by decide)]
    have hV2 : nv (ρ2 25) 0 vn = nv (ρ 25) 0 vn * 2 ^ s0 := by
      rw [← hslV]; exact nv_ext (fun i hi => b1 _ (by omega))
    have hV2p : 0 < nv (ρ2 25) 0 vn := by rw [hV2]; exact Int.mul_pos hVp hpz
    have hV2l : ∀ i, i < vn → 0 ≤ ρ2 25 i ∧ ρ2 25 i < 2147483648 := fun i hi => by rw [b1 i hi]; exact hsinV i hi
    have hv2t : 1073741824 ≤ ρ2 25 (vn - 1) := by
      have hc := cl_in (m := vn - 1) (s := s0) (by omega) hV.1 (by omega)
      rw [b1 _ (by omega)]
      unfold sl
      rw [Int.emod_eq_of_lt hvt.1 htl]
      omega
    refine x_aload_n C dX6_divide_169 rfl rfl ?_
    refine x_get C (Cn := RX6) (T := TX6) (N := 33) (ci := 6) 29 dX6_divide_170 m_w_6 m_f_RX6_179 rfl (by decide) rfl rfl ?_
    rw [b0, e29]
    refine x_iload_n C dX6_divide_173 rfl rfl ?_
    refine x_isub C dX6_divide_174 ?_
    refine x_istore_n C (lv' := [(3, _), (2, _), (1, _), (0, _)]) dX6_divide_175 rfl (by decide) rfl ?_
    have hQ0 : QT (sl f s0) (ρ2 24) (ρ2 26) (nv (ρ2 25) 0 vn) un vn (un + 1 - vn) := by
      have hx : nv (ρ2 24) (un + 1 - vn) vn = nv (sl f s0) (un + 1 - vn) vn := nv_ext (fun i hi => by rw [b24]; exact a1 _ (by omega))
      refine ⟨?_, fun q q1 q2 => by omega, fun q hq => by rw [b24]; exact a1 q (by omega), fun q q1 q2 => by rw [b24, a1 q (by omega)]; exact hsin q (by omega), fun q q1 q2 => by omega, ?_⟩
      · rw [hx]
        have e1 := nv_s (sl f s0) (un + 1 - vn) (vn - 1)
        rw [show vn - 1 + 1 = vn by omega, show un + 1 - vn + (vn - 1) = un by omega] at e1
        have e2 := nv_lt (f := sl f s0) (a := un + 1 - vn) (n := vn - 1) (fun i hi => hsin _ (by omega))
        have e3 := nv_s (ρ2 25) 0 (vn - 1)
        rw [show vn - 1 + 1 = vn by omega, Nat.zero_add] at e3
        have e4 := nv_ge (f := ρ2 25) (a := 0) (n := vn - 1) (lim0 (fun i hi => hV2l i (by omega)))
        have e5 : sl f s0 un < 2 ^ s0 := by
          have := cl_in (m := un) (s := s0) (by omega) hf (by omega)
          unfold sl; rw [hfun, Int.zero_emod, Int.zero_mul]; omega
        have e6 : (2 : Int) ^ s0 ≤ 2 ^ 30 := zp_le hs
        have e7 := Int.mul_le_mul_of_nonneg_right (show sl f s0 un + 1 ≤ ρ2 25 (vn - 1) by omega) (show (0 : Int) ≤ 2147483648 ^ (vn - 1) by have : (0 : Int) < 2147483648 ^ (vn - 1) := Int.pow_pos (by decide); omega)
        rw [Int.add_mul, Int.one_mul] at e7
        omega
      · rw [hx, show un + 1 - (un + 1 - vn) = vn by omega, show un + 1 - vn - (un + 1 - vn) = 0 by omega, nv_0, Int.zero_mul, Int.zero_add]
    refine rp_quo C ⟨by decide, by decide⟩ ρ2 un vn _ hvn ⟨by omega, hun⟩ (sl f s0) hsin hV2l hv2t hV2p ?_ (un + 2) (un + 1 - vn) (by omega) (by omega) _ (by omega) ρ2 hQ0 (fun q q1 q2 => rfl)
    intro ρ3 i5 hQ c3
    obtain ⟨k1, k2, k3, k4, k5, k6⟩ := hQ
    rw [show un + 1 - 0 = un + 1 from rfl, show un + 1 - vn - 0 = un + 1 - vn from rfl, hslU, hV2] at k6
    rw [hV2] at k1
    have hR0 : 0 ≤ nv (ρ3 24) 0 vn := nv_ge (lim0 (fun i hi => k4 i (by omega) (by omega)))
    obtain ⟨hq1, hq2⟩ := dv_same hVp k6 ⟨hR0, k1⟩
    have c25 : ρ3 25 = ρ2 25 := c3 25 (by decide) (by decide)
    refine x_iconst C dX6_divide_199 ?_
    refine x_istore_n C (lv' := [(3, _), (2, _), (1, _), (0, _)]) dX6_divide_200 rfl (by decide) rfl ?_
    obtain ⟨fv, efv⟩ : ∃ fv, fv = zup (ρ3 25) vn 0 := ⟨_, rfl⟩
    have hfv0 : fv vn = 0 := by rw [efv, zup_s]
    have hfve : ∀ i, i < vn → fv i = ρ3 25 i := fun i hi => by rw [efv, zup_n (by omega)]
    have hfvl : ∀ i, i < vn → 0 ≤ fv i ∧ fv i < 2147483648 := fun i hi => by rw [hfve i hi, c25]; exact hV2l i hi
    have hful : ∀ i, i < vn → 0 ≤ ρ3 24 i ∧ ρ3 24 i < 2147483648 := fun i hi => k4 i (by omega) (by omega)
    refine rp_shr C ρ3 vn s0 hs hvn.2 (ρ3 24) fv (k2 vn (by omega) (by omega)) hfv0 hful hfvl ?_ (vn + 1) 0 (by omega) (by omega) ρ3 (fun q q1 q2 => rfl) (fun q q1 q2 => (hfve q q2).symm) (fun q hq => by omega) (fun q hq => by omega) (fun q hq => rfl) (fun q hq => rfl) (fun q q1 q2 => rfl)
    intro ρ4 i6 d1 d2 d3 d4 d5
    have hbu : nv (sr (ρ3 24) s0) 0 vn = nv (ρ 24) 0 un % nv (ρ 25) 0 vn := sr_back (by omega) (k2 vn (by omega) (by omega)) hq2
    have hbv : nv (sr fv s0) 0 vn = nv (ρ 25) 0 vn := sr_back (by omega) hfv0 (by rw [← hV2, ← c25]; exact nv_ext (fun i hi => hfve _ (by omega)))
    have hsu : ∀ i, i < vn → 0 ≤ ρ4 24 i ∧ ρ4 24 i < 2147483648 := fun i hi => by
      have := sr_in (s := s0) (by omega) (hful i hi)
      rw [d1 i hi]; unfold sr; omega
    have hsv : ∀ i, i < vn → 0 ≤ sr fv s0 i ∧ sr fv s0 i < 2147483648 := fun i hi => by
      have := sr_in (s := s0) (by omega) (hfvl i hi)
      unfold sr; omega
    have hve : ∀ i, i < vn → ρ4 25 i = ρ 25 i := fun i hi => by
      have := nv_inj (lim0 hsv) hlV hbv i hi
      rw [Nat.zero_add] at this
      rw [d2 i hi, this]
    refine x_aload_n C dX6_divide_322 rfl rfl ?_
    refine x_iload_n C dX6_divide_323 rfl rfl ?_
    refine r_put C 29 (by decide) (by decide) dX6_divide_324 m_f_RX6_179 rfl (by decide +kernel) ?_
    refine rp_divT C ρ4 vn (by omega) hsu _ rfl ?_ (vn + 1) vn (by omega) (by omega) (fun q h1 h2 => by omega) _ rfl
    intro rn hu hz ht
    have e0 : ρ4 0 = ρ 0 := by rw [d5 0 (by decide) (by decide), c3 0 (by decide) (by decide), b0]
    have e26 : ρ4 26 = ρ3 26 := d5 26 (by decide) (by decide)
    refine x_vret C dX6_divide_361 ⟨_, rfl, rfl, Or.inr ⟨by omega, rn, hu, by rw [up_s, e0], fun q q0 q24 q25 q26 => by rw [up_n q0, d5 q q24 q25, c3 q q24 q26, b3 q q25, a3 q q24, up_n q24], fun i hi => by rw [up_n (by decide)]; exact hve i hi, ?_, ?_, fun i hi => by rw [up_n (by decide), e26]; exact k5 i (by omega) hi, by rw [up_n (by decide), e26]; exact hq1⟩⟩
    · rw [up_n (by decide)]; exact ⟨fun i hi => hsu i (by omega), ht⟩
    · rw [up_n (by decide), ← hbu, ← nv_top (f := ρ4 24) (a := 0) hu (fun i h1 h2 => by rw [Nat.zero_add]; exact hz i h1 h2)]
      exact nv_ext (fun i hi => d1 _ (by omega))
  · exact x_vret C dX6_divide_11 ⟨_, rfl, rfl, Or.inl ⟨by omega, rfl⟩⟩
