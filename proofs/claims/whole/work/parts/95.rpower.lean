/-! THE REFERENCE'S POWER -/
def PWI (ρ ρ1 : St) (vn rn : Nat) (P : Int) : Prop := ρ1 0 32 = rn ∧ (∀ k, k ≠ 29 → k ≠ 32 → ρ1 0 k = ρ 0 k) ∧ (∀ q, q ≠ 0 → q ≠ 24 → q ≠ 25 → q ≠ 26 → q ≠ 28 → ρ1 q = ρ q) ∧ (∀ i, i < vn → ρ1 25 i = ρ 25 i) ∧ rn ≤ vn ∧ NRM (ρ1 28) rn ∧ nv (ρ1 28) 0 rn = P
def TMP (ρ ρ' : St) (un : Nat) (P : Int) : Prop := (∀ q, q ≠ 24 → q ≠ 0 → ρ' q = ρ q) ∧ ρ' 0 = zup (ρ 0) 29 (un : Int) ∧ NRM (ρ' 24) un ∧ nv (ρ' 24) 0 un = P
theorem mm_of {ρ ρ1 ρ2 ρ3 : St} {vn rn un : Nat} {P P2 : Int} (hv : 0 < vn) (hV : NRM (ρ 25) vn) (h : PWI ρ ρ1 vn rn P) (ht : TMP ρ1 ρ2 un P2) (hd : DVP ρ2 ρ3 un vn) : ∃ r2 : Nat, r2 ≤ vn ∧ ρ3 0 29 = r2 ∧ PWI ρ (upr (up ρ3 0 32 (r2 : Int)) 28 (mvF (ρ3 28) (ρ3 24) r2)) vn r2 (P2 % nv (ρ 25) 0 vn) := by
  obtain ⟨h1, h2, h3, h4, h5, h6, h7⟩ := h
  obtain ⟨t1, t2, t3, t4⟩ := ht
  have hV2 : NRM (ρ2 25) vn := by rw [t1 25 (by decide) (by decide)]; exact hV.ext h4
  have eV : nv (ρ2 25) 0 vn = nv (ρ 25) 0 vn := nv_ext (fun i hi => by rw [t1 25 (by decide) (by decide), h4 _ (by omega)])
  obtain ⟨r2, g1, g2, g3, g4, g5, g6, g7⟩ := hd.rest t3 hV2 hv (by rw [t2, zup_s])
  have hmv : ∀ i, i < r2 → mvF (ρ3 28) (ρ3 24) r2 i = ρ3 24 i := fun i hi => by unfold mvF; rw [if_pos hi]
  refine ⟨r2, g1, g2, by rw [upr_n (by decide), up_s, zup_s], fun k k29 k32 => ?_, fun q q0 q24 q25 q26 q28 => ?_, fun i hi => ?_, g1, ?_, ?_⟩
  · rw [upr_n (by decide), up_s, zup_n k32, g3 k k29, t2, zup_n k29]; exact h2 k k29 k32
  · rw [upr_n q28, up_n q0, g4 q q0 q24 q25 q26, t1 q q24 q0]; exact h3 q q0 q24 q25 q26 q28
  · rw [upr_n (by decide), up_n (by decide), g5 i hi, t1 25 (by decide) (by decide)]; exact h4 i hi
  · rw [upr_s]; exact g6.ext hmv
  · rw [upr_s, nv_ext (f := mvF (ρ3 28) (ρ3 24) r2) (g := ρ3 24) (a := 0) (b := 0) (fun i hi => hmv _ (by omega)), g7, t4, eV]
theorem pw_sq (A V : Int) (e : Nat) : (A ^ e % V) * (A ^ e % V) % V = A ^ (2 * e) % V := by
  rw [← Int.mul_emod, ← Int.pow_add, show e + e = 2 * e by omega]
theorem pw_one (A V : Int) (e : Nat) : (A ^ e % V) * (A % V) % V = A ^ (e + 1) % V := by
  rw [← Int.mul_emod, Int.pow_succ]
theorem pw_zero {A V : Int} {E i : Nat} (h : A ^ (E / 2 ^ i) % V = 0) : A ^ E % V = 0 := by
  have hle : E / 2 ^ i ≤ E := Nat.div_le_self _ _
  obtain ⟨d, hd⟩ : ∃ d, E = E / 2 ^ i + d := ⟨E - E / 2 ^ i, by omega⟩
  rw [hd, Int.pow_add, Int.mul_emod, h, Int.zero_mul, Int.zero_emod]
set_option maxHeartbeats 4000000 in
set_option maxRecDepth 100000 in
theorem rp_pow {p : Program} {l : Launch} {e : Env} {R : Room} {s : State} {m : MethodId} {args : Array Value} {below : List Frame} {meth : Method} {c : Code} {D : va_G} {ad : Nat → Nat} {Q : State → Prop} (C : Fx p s m args meth c D ad cX6_power 4 none yX6_power.cls tb) (hR : 3 ≤ R.frames ∧ 160 ≤ R.locals) (ρ : St) (hL : LMr ρ) (j b Ab nb vn xn : Nat) (hb : b < 24) (hAb : ρ 8 b = Ab) (hlb : Ab + nb ≤ 2048) (hvn : 0 < vn ∧ vn ≤ 2048) (hxn : xn ≤ vn) (e30 : ρ 0 30 = vn) (e31 : ρ 0 31 = xn) (hV : NRM (ρ 25) vn) (hX : NRM (ρ 27) xn) (A : Int) (eX : nv (ρ 27) 0 xn = A % nv (ρ 25) 0 vn) (E : Nat) (eE : E = (nv (ρ 4) Ab nb).toNat) (K : ∀ (ρ1 : St) (rn : Nat) lv, PWI ρ ρ1 vn rn (A ^ E % nv (ρ 25) 0 vn) → X p l e R s m args below meth c D ad 4 Q (rc D ad ρ1) 183 lv []) (n i : Nat) (hn : i < n) (hi : i ≤ 31 * nb) (z : Int) (hz : z = (i : Int) - 1) (rn : Nat) (ρ1 : St) (h1 : PWI ρ ρ1 vn rn (A ^ (E / 2 ^ i) % nv (ρ 25) 0 vn)) : X p l e R s m args below meth c D ad 4 Q (rc D ad ρ1) 113 [(3, vi z), (2, vi (b : Int)), (0, .ref (ad 0)), (1, vi (j : Int))] [] := by
  induction n generalizing i z rn ρ1 with
  | zero => omega
  | succ n ih =>
  refine x_iload_n C dX6_power_113 rfl rfl ?_
  refine x_if_lt (tgt := 183) C dX6_power_114 (by decide) (by omega) (fun c_114 => ?_) (fun c_114 => ?_)
  · obtain rfl : i = 0 := by omega
    rw [Nat.pow_zero, Nat.div_one] at h1
    exact K ρ1 rn _ h1
  · have hrn := h1.2.2.2.2.1
    refine x_aload_n C dX6_power_117 rfl rfl ?_
    refine x_get C (Cn := RX6) (T := TX6) (N := 33) (ci := 6) 32 dX6_power_118 m_w_6 m_f_RX6_200 rfl (by decide) rfl rfl ?_
    rw [h1.1]
    refine x_if_le (tgt := 183) C dX6_power_121 (by decide) (by omega) (fun c_121 => ?_) (fun c_121 => ?_)
    · obtain rfl : rn = 0 := by omega
      have h0 := h1.2.2.2.2.2.2
      rw [nv_0] at h0
      obtain ⟨p1, p2, p3, p4, p5, p6, p7⟩ := h1
      exact K ρ1 0 _ ⟨p1, p2, p3, p4, p5, p6, by rw [pw_zero h0.symm, nv_0]⟩
    · obtain ⟨i, rfl⟩ : ∃ i1, i = i1 + 1 := ⟨i - 1, by omega⟩
      obtain rfl : z = (i : Int) := by omega
      have hR1 := h1.2.2.2.2.2.1.1
      have ebit := nv_bit (f := ρ 4) (a := Ab) (n := nb) (fun k hk => hL _ (by omega)) (show i < 31 * nb by omega)
      rw [← eE] at ebit
      have es := bit_s E i
      have hi31 : i / 31 < nb := by omega
      have hlm := hL (Ab + i / 31) (by omega)
      have hm0 := Int.emod_nonneg (ρ 4 (Ab + i / 31) / 2 ^ (i % 31)) (show (2 : Int) ≠ 0 by decide)
      have hm1 := Int.emod_lt_of_pos (ρ 4 (Ab + i / 31) / 2 ^ (i % 31)) (show (0 : Int) < 2 by decide)
      refine x_aload_n C dX6_power_124 rfl rfl ?_
      refine x_iconst C dX6_power_125 ?_
      refine x_callV C (ci := 6) (nn := 1) (r_times ρ1 rn rn 28 0 (Or.inr ⟨rfl, rfl, rfl⟩) h1.1 (by omega) hR1 hR1) g_RX6_209 rfl (by decide +kernel) ⟨by first | decide | omega, by first | decide | omega⟩ rfl rfl rfl rfl rfl (Nat.le_of_ble_eq_true rfl) dX6_power_126 (fun v h1 hp => ?_)
      obtain ⟨ρ2, rfl, rfl, un, hu, hT⟩ := hp
      have hT : TMP ρ1 ρ2 un _ := hT
      refine x_aload_n C dX6_power_129 rfl rfl ?_
      refine x_callV C (ci := 6) (nn := 0) (r_divide ρ2 un vn (by rw [hT.2.1, zup_s]) (by rw [hT.2.1, zup_n (by decide), h1.2.1 30 (by decide) (by decide)]; exact e30) (by omega) (by omega) hT.2.2.1 (by rw [hT.1 25 (by decide) (by decide)]; exact hV.ext h1.2.2.2.1)) g_RX6_219 rfl (by decide +kernel) ⟨by first | decide | omega, by first | decide | omega⟩ rfl rfl rfl rfl rfl (Nat.le_of_ble_eq_true rfl) dX6_power_130 (fun v h1 hp => ?_)
      obtain ⟨ρ3, rfl, rfl, hD⟩ := hp
      obtain ⟨r2, hr2, e2, hP⟩ := mm_of hvn.1 hV h1 hT hD
      rw [h1.2.2.2.2.2.2, pw_sq] at hP
      refine x_aload_n C dX6_power_133 rfl rfl ?_
      refine x_callV C (ci := 6) (nn := 0) (r_uToR ρ3 r2 (by omega) e2) g_RX6_206 rfl (by decide +kernel) ⟨by first | decide | omega, by first | decide | omega⟩ rfl rfl rfl rfl rfl (Nat.le_of_ble_eq_true rfl) dX6_power_134 (fun v h1 hp => ?_)
      obtain ⟨ρ4, rfl, rfl, e4⟩ := hp
      rw [← e4] at hP
      clear e4
      refine x_aload_n C dX6_power_137 rfl rfl ?_
      refine x_get C (Cn := RX6) (T := TX6) (N := 33) (ci := 6) 4 dX6_power_138 m_w_6 m_f_RX6_7 rfl (by decide) rfl rfl ?_
      refine x_aload_n C dX6_power_141 rfl rfl ?_
      refine x_get C (Cn := RX6) (T := TX6) (N := 33) (ci := 6) 8 dX6_power_142 m_w_6 m_f_RX6_23 rfl (by decide) rfl rfl ?_
      refine x_iload_n C dX6_power_145 rfl rfl ?_
      refine x_iald C dX6_power_146 rfl (by omega) (by omega) ?_
      rw [Int.toNat_natCast, hP.2.2.1 8 (by decide) (by decide) (by decide) (by decide) (by decide), hAb]
      refine x_iload_n C dX6_power_147 rfl rfl ?_
      refine x_bipush C (z := 31) dX6_power_148 (by decide) ?_
      refine x_idiv C (z := ((i / 31 : Nat) : Int)) dX6_power_150 (fun q => by have := (iI_eq (a := 31) (b := 0) (by decide) (by decide)).mp q; omega) (by rw [iI_div (by omega) (by omega)]; congr 1) ?_
      refine x_iadd C dX6_power_151 ?_
      refine x_iald C dX6_power_152 rfl (by omega) (by omega) ?_
      rw [show ((Ab : Int) + ((i / 31 : Nat) : Int)).toNat = Ab + i / 31 by omega, hP.2.2.1 4 (by decide) (by decide) (by decide) (by decide) (by decide)]
      refine x_iload_n C dX6_power_153 rfl rfl ?_
      refine x_bipush C (z := 31) dX6_power_154 (by decide) ?_
      refine x_irem C dX6_power_156 (by omega) (by omega) ?_
      rw [show (i : Int) % 31 = ((i % 31 : Nat) : Int) by omega]
      refine x_ishr C dX6_power_157 (by omega) (by omega) ?_
      rw [Int.toNat_natCast]
      refine x_iconst C dX6_power_158 ?_
      refine x_iand C (z := _) dX6_power_159 (iI_one _) ?_
      refine x_iconst C dX6_power_160 ?_
      refine x_icmp_ne (tgt := 177) C dX6_power_161 (by decide) (by omega) (by omega) (fun c_161 => ?_) (fun c_161 => ?_)
      · refine x_iinc C (lv' := [(3, _), (2, _), (0, _), (1, _)]) dX6_power_177 rfl (by decide) rfl ?_
        refine x_goto (tgt := 113) C dX6_power_180 (by decide) ?_
        refine ih i (by omega) (by omega) _ (by omega) r2 ρ4 ?_
        rw [es, show E / 2 ^ i % 2 = 0 by omega, Nat.add_zero]
        exact hP
      · refine x_aload_n C dX6_power_164 rfl rfl ?_
        refine x_iconst C dX6_power_165 ?_
        refine x_callV C (ci := 6) (nn := 1) (r_times ρ4 r2 xn 27 1 (Or.inl ⟨rfl, rfl, by rw [hP.2.1 31 (by decide) (by decide)]; exact e31⟩) hP.1 (by omega) hP.2.2.2.2.2.1.1 (by rw [hP.2.2.1 27 (by decide) (by decide) (by decide) (by decide) (by decide)]; exact hX.1)) g_RX6_209 rfl (by decide +kernel) ⟨by first | decide | omega, by first | decide | omega⟩ rfl rfl rfl rfl rfl (Nat.le_of_ble_eq_true rfl) dX6_power_166 (fun v h1 hp => ?_)
        obtain ⟨ρ5, rfl, rfl, un2, hu2, hT2⟩ := hp
        have hT2 : TMP ρ4 ρ5 un2 _ := hT2
        refine x_aload_n C dX6_power_169 rfl rfl ?_
        refine x_callV C (ci := 6) (nn := 0) (r_divide ρ5 un2 vn (by rw [hT2.2.1, zup_s]) (by rw [hT2.2.1, zup_n (by decide), hP.2.1 30 (by decide) (by decide)]; exact e30) (by omega) (by omega) hT2.2.2.1 (by rw [hT2.1 25 (by decide) (by decide)]; exact hV.ext hP.2.2.2.1)) g_RX6_219 rfl (by decide +kernel) ⟨by first | decide | omega, by first | decide | omega⟩ rfl rfl rfl rfl rfl (Nat.le_of_ble_eq_true rfl) dX6_power_170 (fun v h1 hp => ?_)
        obtain ⟨ρ6, rfl, rfl, hD2⟩ := hp
        obtain ⟨r3, hr3, e3, hP3⟩ := mm_of hvn.1 hV hP hT2 hD2
        rw [hP.2.2.2.2.2.2, hP.2.2.1 27 (by decide) (by decide) (by decide) (by decide) (by decide), eX, pw_one] at hP3
        refine x_aload_n C dX6_power_173 rfl rfl ?_
        refine x_callV C (ci := 6) (nn := 0) (r_uToR ρ6 r3 (by omega) e3) g_RX6_206 rfl (by decide +kernel) ⟨by first | decide | omega, by first | decide | omega⟩ rfl rfl rfl rfl rfl (Nat.le_of_ble_eq_true rfl) dX6_power_174 (fun v h1 hp => ?_)
        obtain ⟨ρ7, rfl, rfl, e7⟩ := hp
        rw [← e7] at hP3
        clear e7
        refine x_iinc C (lv' := [(3, _), (2, _), (0, _), (1, _)]) dX6_power_177 rfl (by decide) rfl ?_
        refine x_goto (tgt := 113) C dX6_power_180 (by decide) ?_
        refine ih i (by omega) (by omega) _ (by omega) r3 ρ7 ?_
        rw [es, show E / 2 ^ i % 2 = 1 by omega]
        exact hP3
