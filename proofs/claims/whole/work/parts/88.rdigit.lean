/-! THE REFERENCE'S DIGIT -/
theorem x_lrem {p : Program} {l : Launch} {e : Env} {R : Room} {s : State} {m : MethodId} {args : Array Value} {below : List Frame} {meth : Method} {c : Code} {D : va_G} {ad : Nat → Nat} {cc : ByteArray} {nL : Nat} {ret : Option FieldType} {own : String} {Ts : List Cond} {Q : State → Prop} {h : HM} {pc : Nat} {lv : List (Nat × Value)} {st : List Value} (C : Fx p s m args meth c D ad cc nL ret own Ts) {a b : Int} (hd : decode cc pc = .ok (.lrem, 1)) (ha : 0 ≤ a ∧ a < 9223372036854775808) (hb : 0 < b ∧ b < 9223372036854775808) (k : X p l e R s m args below meth c D ad nL Q h (pc + 1) lv (vl (a % b) :: st)) : X p l e R s m args below meth c D ad nL Q h pc lv (vl b :: vl a :: st) :=
  fun H locs ls hh hs hl => lv_lrem C.1 C.2.1 hd (fun q => by have := (lI_eq (a := b) (b := 0) (by omega) (by decide)).mp q; omega) (by
    rw [lI_div ha hb, lI_mul, lI_sub, show a - a / b * b = a % b by rw [Int.emod_def, Int.mul_comm]]
    exact k H locs ls hh hs hl)
theorem sb_step {F f V : Nat → Int} {u j : Nat} {G cy L : Int} (hLe : L = F (u + j) + cy - G * V j) (heq : nv f u j + cy * 2147483648 ^ j = nv F u j - G * nv V 0 j) :
    nv (zup f (u + j) (L % 2147483648)) u (j + 1) + L / 2147483648 * 2147483648 ^ (j + 1) = nv F u (j + 1) - G * nv V 0 (j + 1) := by
  rw [nv_s, nv_s, nv_s, zup_s, bp_s, nv_ext (g := f) (b := u) (fun i hi => zup_n (by omega)), Nat.zero_add]
  have h1 := dmP L (2147483648 ^ j)
  have h2 : L * 2147483648 ^ j = F (u + j) * 2147483648 ^ j + cy * 2147483648 ^ j - G * V j * 2147483648 ^ j := by rw [hLe, Int.sub_mul, Int.add_mul]
  have h3 : G * (nv V 0 j + V j * 2147483648 ^ j) = G * nv V 0 j + G * V j * 2147483648 ^ j := by rw [Int.mul_add, Int.mul_assoc]
  omega
/-- adding a number of two limbs at the top: what the guess rests on -/
theorem top2 {f : Nat → Int} {a n : Nat} (hn : 1 < n) : nv f a n = (f (a + (n - 1)) * 2147483648 + f (a + (n - 2))) * 2147483648 ^ (n - 2) + nv f a (n - 2) := by
  obtain ⟨k, rfl⟩ : ∃ k, n = k + 2 := ⟨n - 2, by omega⟩
  rw [show k + 2 - 1 = k + 1 by omega, show k + 2 - 2 = k by omega, nv_s, nv_s, bp_s, Int.add_mul, Int.mul_assoc, Int.mul_comm (2147483648 ^ k) 2147483648]
  omega
/-- the guess never falls below the digit -/
theorem dg_down {v1 v2 v0 h l w0 P q d lf : Int} (hP : 0 < P) (hv0 : 0 ≤ v0) (hw : w0 < P) (hq : 0 ≤ q) (hh : d * v1 + lf = h) (h1 : q * ((v1 * 2147483648 + v2) * P + v0) ≤ (h * 2147483648 + l) * P + w0) (hv : 0 ≤ v1 ∧ 0 ≤ v2) (hx : d * v2 > lf * 2147483648 + l) : q ≤ d - 1 := by
  rcases Int.lt_or_le (d - 1) q with c | c
  · exfalso
    have e1 : q * ((v1 * 2147483648 + v2) * P + v0) = q * (v1 * 2147483648 + v2) * P + q * v0 := by rw [Int.mul_add, Int.mul_assoc]
    have e2 : 0 ≤ q * v0 := Int.mul_nonneg hq hv0
    have e3 : q * (v1 * 2147483648 + v2) * P < (h * 2147483648 + l + 1) * P := by rw [Int.add_mul _ 1, Int.one_mul]; omega
    have e4 := Int.lt_of_mul_lt_mul_right e3 (Int.le_of_lt hP)
    have e5 : d * (v1 * 2147483648 + v2) ≤ q * (v1 * 2147483648 + v2) := Int.mul_le_mul_of_nonneg_right (by omega) (by omega)
    have e6 : d * (v1 * 2147483648 + v2) = d * v1 * 2147483648 + d * v2 := by rw [Int.mul_add, Int.mul_assoc]
    omega
  · exact c
/-- and ends at most one above it -/
theorem dg_end {v1 v2 v0 h l w0 P q d lf : Int} (hP : 0 < P) (hv0 : 0 ≤ v0 ∧ v0 < P) (hw : 0 ≤ w0) (hd : 0 ≤ d ∧ d < 2147483648) (hh : d * v1 + lf = h) (hv : 1 ≤ v1 ∧ 0 ≤ v2) (h2 : (h * 2147483648 + l) * P + w0 < (q + 1) * ((v1 * 2147483648 + v2) * P + v0)) (hx : d * v2 ≤ lf * 2147483648 + l) : d ≤ q + 1 := by
  rcases Int.lt_or_le (q + 1) d with c | c
  · exfalso
    have e6 : d * (v1 * 2147483648 + v2) = d * v1 * 2147483648 + d * v2 := by rw [Int.mul_add, Int.mul_assoc]
    have e7 : d * (v1 * 2147483648 + v2) ≤ h * 2147483648 + l := by omega
    have e8 := Int.mul_le_mul_of_nonneg_right e7 (Int.le_of_lt hP)
    have e9 : (q + 1) * ((v1 * 2147483648 + v2) * P + v0) ≤ (d - 1) * ((v1 * 2147483648 + v2) * P + v0) := by
      refine Int.mul_le_mul_of_nonneg_right (by omega) ?_
      have : 0 ≤ (v1 * 2147483648 + v2) * P := Int.mul_nonneg (by omega) (by omega)
      omega
    have e10 : (d - 1) * ((v1 * 2147483648 + v2) * P + v0) = d * (v1 * 2147483648 + v2) * P + d * v0 - ((v1 * 2147483648 + v2) * P + v0) := by rw [Int.sub_mul, Int.one_mul, Int.mul_add, Int.mul_assoc]
    have e11 : d * v0 ≤ d * P := Int.mul_le_mul_of_nonneg_left (by omega) hd.1
    have e12 : d * P ≤ 2147483648 * P := Int.mul_le_mul_of_nonneg_right (by omega) (by omega)
    have e13 : 2147483648 * P ≤ (v1 * 2147483648 + v2) * P := Int.mul_le_mul_of_nonneg_right (by omega) (by omega)
    omega
  · exact c
set_option maxHeartbeats 4000000 in
set_option maxRecDepth 100000 in
theorem rp_digG {p : Program} {l : Launch} {e : Env} {R : Room} {s : State} {m : MethodId} {args : Array Value} {below : List Frame} {meth : Method} {c : Code} {D : va_G} {ad : Nat → Nat} {Q : State → Prop} (C : Fx p s m args meth c D ad cX6_digit 21 (some .long) yX6_digit.cls tb) (ρ : St) (jj nn : Nat) (hnn : 0 < nn ∧ nn ≤ 2100) (hjn : jj + nn < 4200) (hV : ∀ i, i < nn → 0 ≤ ρ 25 i ∧ ρ 25 i < 2147483648) (hU : ∀ i, jj ≤ i → i ≤ jj + nn → 0 ≤ ρ 24 i ∧ ρ 24 i < 2147483648) (hv1 : 1073741824 ≤ ρ 25 (nn - 1)) (q hh tp : Int) (hq : 0 ≤ q) (A1 : ∀ d lf : Int, d * ρ 25 (nn - 1) + lf = hh → 2147483648 ≤ d ∨ (1 < nn ∧ d * ρ 25 (nn - 2) > lf * 2147483648 + ρ 24 (jj + nn - 2)) → q ≤ d - 1) (K : ∀ (d lf i9 : Int), q ≤ d ∧ d < 8589934592 ∧ d * ρ 25 (nn - 1) + lf = hh ∧ 0 ≤ lf → (2147483648 ≤ lf ∨ (d < 2147483648 ∧ ¬ (1 < nn ∧ d * ρ 25 (nn - 2) > lf * 2147483648 + ρ 24 (jj + nn - 2)))) → X p l e R s m args below meth c D ad 21 Q (rc D ad ρ) 150 [(9, vi i9), (7, vl lf), (5, vl d), (3, vl tp), (0, .ref (ad 0)), (1, vi (jj : Int)), (2, vi (nn : Int))] []) (n : Nat) (d lf : Int) (hn : (8589934592 : Int) - lf < n * 1073741824) (hd : q ≤ d ∧ d < 8589934592 ∧ d * ρ 25 (nn - 1) + lf = hh ∧ 0 ≤ lf ∧ lf < 8589934592) : X p l e R s m args below meth c D ad 21 Q (rc D ad ρ) 54 [(9, vi 1), (7, vl lf), (5, vl d), (3, vl tp), (0, .ref (ad 0)), (1, vi (jj : Int)), (2, vi (nn : Int))] [] := by
  induction n generalizing d lf with
  | zero => omega
  | succ n ih =>
  rw [show ((n + 1 : Nat) : Int) * 1073741824 = (n : Int) * 1073741824 + 1073741824 by omega] at hn
  refine x_iload C dX6_digit_54 rfl ?_
  refine x_if_eq (tgt := 150) C dX6_digit_56 (by decide) (by omega) (fun c_56 => ?_) (fun c_56 => ?_)
  · omega
  · refine x_lload C dX6_digit_59 rfl ?_
    refine x_ldc2 C (z := 2147483648) dX6_digit_61 (C.2.2.2.2.1 _ m_k_RX6_195) (by decide) ?_
    refine x_lif_ge (tgt := 150) C dX6_digit_64 dX6_digit_65 (by decide) (by omega) (by omega) (fun c_64 => ?_) (fun c_64 => ?_)
    · exact K d lf _ ⟨hd.1, hd.2.1, hd.2.2.1, hd.2.2.2.1⟩ (Or.inl c_64)
    · have hvt := hV (nn - 1) (by omega)
      refine x_lload C dX6_digit_68 rfl ?_
      refine x_ldc2 C (z := 2147483648) dX6_digit_70 (C.2.2.2.2.1 _ m_k_RX6_195) (by decide) ?_
      refine x_lif_ge (tgt := 115) C dX6_digit_73 dX6_digit_74 (by decide) (by omega) (by omega) (fun c_73 => ?_) (fun c_73 => ?_)
      · refine x_iconst C dX6_digit_115 ?_
        refine x_goto (tgt := 120) C dX6_digit_116 (by decide) ?_
        refine x_istore C (lv' := [(9, _), (7, _), (5, _), (3, _), (0, _), (1, _), (2, _)]) dX6_digit_120 (by decide) rfl ?_
        refine x_iload C dX6_digit_122 rfl ?_
        refine x_if_eq (tgt := 54) C dX6_digit_124 (by decide) (by omega) (fun c_124 => ?_) (fun c_124 => ?_)
        · omega
        · refine x_lload C dX6_digit_127 rfl ?_
          refine x_lconst1 C dX6_digit_129 ?_
          refine x_lsub C dX6_digit_130 ?_
          refine x_lstore C (lv' := [(5, _), (9, _), (7, _), (3, _), (0, _), (1, _), (2, _)]) dX6_digit_131 (by decide) rfl ?_
          refine x_lload C dX6_digit_133 rfl ?_
          refine x_aload_n C dX6_digit_135 rfl rfl ?_
          refine x_get C (Cn := RX6) (T := TX6) (N := 33) (ci := 6) 25 dX6_digit_136 m_w_6 m_f_RX6_69 rfl (by decide) rfl rfl ?_
          refine x_iload_n C dX6_digit_139 rfl rfl ?_
          refine x_iconst C dX6_digit_140 ?_
          refine x_isub C dX6_digit_141 ?_
          refine x_iald C dX6_digit_142 rfl (by omega) (by omega) ?_
          rw [show ((nn : Int) - 1).toNat = nn - 1 by omega]
          refine x_i2l C dX6_digit_143 (by omega) ?_
          refine x_ladd C dX6_digit_144 ?_
          refine x_lstore C (lv' := [(7, _), (5, _), (9, _), (3, _), (0, _), (1, _), (2, _)]) dX6_digit_145 (by decide) rfl ?_
          refine x_goto (tgt := 54) C dX6_digit_147 (by decide) ?_
          refine X.sub [2, 0, 1, 3, 4, 5, 6] rfl ?_
          have hqd := A1 d lf hd.2.2.1 (by first | exact Or.inl (by omega) | exact Or.inr ⟨by omega, by omega⟩)
          have hsm : (d - 1) * ρ 25 (nn - 1) = d * ρ 25 (nn - 1) - ρ 25 (nn - 1) := by rw [Int.sub_mul, Int.one_mul]
          exact ih (d - 1) (lf + ρ 25 (nn - 1)) (by omega) ⟨hqd, by omega, by omega, by omega, by omega⟩
      · refine x_iload_n C dX6_digit_77 rfl rfl ?_
        refine x_iconst C dX6_digit_78 ?_
        refine x_icmp_le (tgt := 119) C dX6_digit_79 (by decide) (by omega) (by omega) (fun c_79 => ?_) (fun c_79 => ?_)
        · refine x_iconst C dX6_digit_119 ?_
          refine x_istore C (lv' := [(9, _), (7, _), (5, _), (3, _), (0, _), (1, _), (2, _)]) dX6_digit_120 (by decide) rfl ?_
          refine x_iload C dX6_digit_122 rfl ?_
          refine x_if_eq (tgt := 54) C dX6_digit_124 (by decide) (by omega) (fun _ => ?_) (fun q => absurd rfl q)
          refine x_iload C dX6_digit_54 rfl ?_
          refine x_if_eq (tgt := 150) C dX6_digit_56 (by decide) (by omega) (fun _ => ?_) (fun q => absurd rfl q)
          exact K d lf _ ⟨hd.1, hd.2.1, hd.2.2.1, hd.2.2.2.1⟩ (Or.inr ⟨by omega, by omega⟩)
        · refine x_lload C dX6_digit_82 rfl ?_
          have hv2 := hV (nn - 2) (by omega)
          have hu2 := hU (jj + nn - 2) (by omega) (by omega)
          have hmb := mulB (show 0 ≤ d ∧ d < 2147483648 by omega) hv2
          refine x_aload_n C dX6_digit_84 rfl rfl ?_
          refine x_get C (Cn := RX6) (T := TX6) (N := 33) (ci := 6) 25 dX6_digit_85 m_w_6 m_f_RX6_69 rfl (by decide) rfl rfl ?_
          refine x_iload_n C dX6_digit_88 rfl rfl ?_
          refine x_iconst C dX6_digit_89 ?_
          refine x_isub C dX6_digit_90 ?_
          refine x_iald C dX6_digit_91 rfl (by omega) (by omega) ?_
          rw [show ((nn : Int) - 2).toNat = nn - 2 by omega]
          refine x_i2l C dX6_digit_92 (by omega) ?_
          refine x_lmul C dX6_digit_93 ?_
          refine x_lload C dX6_digit_94 rfl ?_
          refine x_bipush C (z := 31) dX6_digit_96 (by decide) ?_
          refine x_lshl C dX6_digit_98 (by decide) ?_
          rw [show lf * 2 ^ (31 : Int).toNat = lf * 2147483648 from rfl]
          refine x_aload_n C dX6_digit_99 rfl rfl ?_
          refine x_get C (Cn := RX6) (T := TX6) (N := 33) (ci := 6) 24 dX6_digit_100 m_w_6 m_f_RX6_66 rfl (by decide) rfl rfl ?_
          refine x_iload_n C dX6_digit_103 rfl rfl ?_
          refine x_iload_n C dX6_digit_104 rfl rfl ?_
          refine x_iadd C dX6_digit_105 ?_
          refine x_iconst C dX6_digit_106 ?_
          refine x_isub C dX6_digit_107 ?_
          refine x_iald C dX6_digit_108 rfl (by omega) (by omega) ?_
          rw [show ((jj : Int) + (nn : Int) - 2).toNat = jj + nn - 2 by omega]
          refine x_i2l C dX6_digit_109 (by omega) ?_
          refine x_ladd C dX6_digit_110 ?_
          refine x_lif_le (tgt := 119) C dX6_digit_111 dX6_digit_112 (by decide) (by omega) (by omega) (fun c_111 => ?_) (fun c_111 => ?_)
          · refine x_iconst C dX6_digit_119 ?_
            refine x_istore C (lv' := [(9, _), (7, _), (5, _), (3, _), (0, _), (1, _), (2, _)]) dX6_digit_120 (by decide) rfl ?_
            refine x_iload C dX6_digit_122 rfl ?_
            refine x_if_eq (tgt := 54) C dX6_digit_124 (by decide) (by omega) (fun _ => ?_) (fun q => absurd rfl q)
            refine x_iload C dX6_digit_54 rfl ?_
            refine x_if_eq (tgt := 150) C dX6_digit_56 (by decide) (by omega) (fun _ => ?_) (fun q => absurd rfl q)
            exact K d lf _ ⟨hd.1, hd.2.1, hd.2.2.1, hd.2.2.2.1⟩ (Or.inr ⟨by omega, by omega⟩)
          · refine x_iconst C dX6_digit_115 ?_
            refine x_goto (tgt := 120) C dX6_digit_116 (by decide) ?_
            refine x_istore C (lv' := [(9, _), (7, _), (5, _), (3, _), (0, _), (1, _), (2, _)]) dX6_digit_120 (by decide) rfl ?_
            refine x_iload C dX6_digit_122 rfl ?_
            refine x_if_eq (tgt := 54) C dX6_digit_124 (by decide) (by omega) (fun c_124 => ?_) (fun c_124 => ?_)
            · omega
            · refine x_lload C dX6_digit_127 rfl ?_
              refine x_lconst1 C dX6_digit_129 ?_
              refine x_lsub C dX6_digit_130 ?_
              refine x_lstore C (lv' := [(5, _), (9, _), (7, _), (3, _), (0, _), (1, _), (2, _)]) dX6_digit_131 (by decide) rfl ?_
              refine x_lload C dX6_digit_133 rfl ?_
              refine x_aload_n C dX6_digit_135 rfl rfl ?_
              refine x_get C (Cn := RX6) (T := TX6) (N := 33) (ci := 6) 25 dX6_digit_136 m_w_6 m_f_RX6_69 rfl (by decide) rfl rfl ?_
              refine x_iload_n C dX6_digit_139 rfl rfl ?_
              refine x_iconst C dX6_digit_140 ?_
              refine x_isub C dX6_digit_141 ?_
              refine x_iald C dX6_digit_142 rfl (by omega) (by omega) ?_
              rw [show ((nn : Int) - 1).toNat = nn - 1 by omega]
              refine x_i2l C dX6_digit_143 (by omega) ?_
              refine x_ladd C dX6_digit_144 ?_
              refine x_lstore C (lv' := [(7, _), (5, _), (9, _), (3, _), (0, _), (1, _), (2, _)]) dX6_digit_145 (by decide) rfl ?_
              refine x_goto (tgt := 54) C dX6_digit_147 (by decide) ?_
              refine X.sub [2, 0, 1, 3, 4, 5, 6] rfl ?_
              have hqd := A1 d lf hd.2.2.1 (by first | exact Or.inl (by omega) | exact Or.inr ⟨by omega, by omega⟩)
              have hsm : (d - 1) * ρ 25 (nn - 1) = d * ρ 25 (nn - 1) - ρ 25 (nn - 1) := by rw [Int.sub_mul, Int.one_mul]
              exact ih (d - 1) (lf + ρ 25 (nn - 1)) (by omega) ⟨hqd, by omega, by omega, by omega, by omega⟩
set_option maxHeartbeats 4000000 in
set_option maxRecDepth 100000 in
theorem rp_digS {p : Program} {l : Launch} {e : Env} {R : Room} {s : State} {m : MethodId} {args : Array Value} {below : List Frame} {meth : Method} {c : Code} {D : va_G} {ad : Nat → Nat} {Q : State → Prop} (C : Fx p s m args meth c D ad cX6_digit 21 (some .long) yX6_digit.cls tb) (ρ : St) (jj nn : Nat) (hnn : 0 < nn ∧ nn ≤ 2100) (hjn : jj + nn < 4200) (hV : ∀ i, i < nn → 0 ≤ ρ 25 i ∧ ρ 25 i < 2147483648) (d : Int) (hd : 0 ≤ d ∧ d < 2147483648) (f0 : Nat → Int) (K : ∀ (ρ1 : St) (un cy i14 : Int), (∀ i, jj ≤ i → i ≤ jj + nn → 0 ≤ ρ1 24 i ∧ ρ1 24 i < 2147483648) → (∀ q, ¬ (jj ≤ q ∧ q < jj + nn) → ρ1 24 q = f0 q) → (∀ q, q ≠ 24 → ρ1 q = ρ q) → (0 ≤ un ∧ un ≤ 1) → (0 ≤ cy ∧ cy < 2147483648) → nv (ρ1 24) jj nn + (-(cy + un)) * 2147483648 ^ nn = nv f0 jj nn - d * nv (ρ 25) 0 nn → X p l e R s m args below meth c D ad 21 Q (rc D ad ρ1) 258 [(14, vi i14), (12, vl un), (10, vl cy), (5, vl d), (0, .ref (ad 0)), (1, vi (jj : Int)), (2, vi (nn : Int))] []) (n i : Nat) (hn : nn - i < n) (hi : i ≤ nn) (ρ1 : St) (un cy : Int) (h1 : ∀ i, jj ≤ i → i ≤ jj + nn → 0 ≤ ρ1 24 i ∧ ρ1 24 i < 2147483648) (h2 : ∀ q, ¬ (jj ≤ q ∧ q < jj + i) → ρ1 24 q = f0 q) (h3 : ∀ q, q ≠ 24 → ρ1 q = ρ q) (hun : 0 ≤ un ∧ un ≤ 1) (hcy : 0 ≤ cy ∧ cy < 2147483648) (h5 : nv (ρ1 24) jj i + (-(cy + un)) * 2147483648 ^ i = nv f0 jj i - d * nv (ρ 25) 0 i) : X p l e R s m args below meth c D ad 21 Q (rc D ad ρ1) 159 [(14, vi (i : Int)), (12, vl un), (10, vl cy), (5, vl d), (0, .ref (ad 0)), (1, vi (jj : Int)), (2, vi (nn : Int))] [] := by
  induction n generalizing i ρ1 un cy with
  | zero => omega
  | succ n ih =>
  refine x_iload C dX6_digit_159 rfl ?_
  refine x_iload_n C dX6_digit_161 rfl rfl ?_
  refine x_icmp_ge (tgt := 258) C dX6_digit_162 (by decide) (by omega) (by omega) (fun c_162 => ?_) (fun c_162 => ?_)
  · obtain rfl : i = nn := by omega
    exact K ρ1 un cy _ h1 h2 h3 hun hcy h5
  · have hvi := hV i (by omega)
    have hui := h1 (jj + i) (by omega) (by omega)
    have hmb := mulB hd hvi
    have hij : ((i : Int) + (jj : Int)).toNat = jj + i := by omega
    refine x_lload C dX6_digit_165 rfl ?_
    refine x_aload_n C dX6_digit_167 rfl rfl ?_
    refine x_get C (Cn := RX6) (T := TX6) (N := 33) (ci := 6) 25 dX6_digit_168 m_w_6 m_f_RX6_69 rfl (by decide) rfl rfl ?_
    refine x_iload C dX6_digit_171 rfl ?_
    refine x_iald C dX6_digit_173 rfl (by omega) (by omega) ?_
    rw [Int.toNat_natCast, h3 25 (by decide)]
    refine x_i2l C dX6_digit_174 (by omega) ?_
    refine x_lmul C dX6_digit_175 ?_
    refine x_lload C dX6_digit_176 rfl ?_
    refine x_ladd C dX6_digit_178 ?_
    obtain ⟨p, hp⟩ : ∃ p, p = d * ρ 25 i + cy := ⟨_, rfl⟩
    rw [← hp]
    have hpb : 0 ≤ p ∧ p < 4611686018427387904 := by omega
    refine x_lstore C (lv' := [(15, _), (14, _), (12, _), (10, _), (5, _), (0, _), (1, _), (2, _)]) dX6_digit_179 (by decide) rfl ?_
    refine x_lload C dX6_digit_181 rfl ?_
    refine x_bipush C (z := 31) dX6_digit_183 (by decide) ?_
    refine x_lshr C dX6_digit_185 (by decide) (by omega) ?_
    rw [show p / 2 ^ (31 : Int).toNat = p / 2147483648 from rfl]
    refine x_lstore C (lv' := [(10, _), (15, _), (14, _), (12, _), (5, _), (0, _), (1, _), (2, _)]) dX6_digit_186 (by decide) rfl ?_
    refine x_aload_n C dX6_digit_188 rfl rfl ?_
    refine x_get C (Cn := RX6) (T := TX6) (N := 33) (ci := 6) 24 dX6_digit_189 m_w_6 m_f_RX6_66 rfl (by decide) rfl rfl ?_
    refine x_iload C dX6_digit_192 rfl ?_
    refine x_iload_n C dX6_digit_194 rfl rfl ?_
    refine x_iadd C dX6_digit_195 ?_
    refine x_iald C dX6_digit_196 rfl (by omega) (by omega) ?_
    rw [hij]
    refine x_i2l C dX6_digit_197 (by omega) ?_
    refine x_lload C dX6_digit_198 rfl ?_
    refine x_ldc2 C (z := 2147483647) dX6_digit_200 (C.2.2.2.2.1 _ m_k_RX6_189) (by decide) ?_
    refine x_land C (z := _) dX6_digit_203 (lI_mask _) ?_
    refine x_lsub C dX6_digit_204 ?_
    refine x_lload C dX6_digit_205 rfl ?_
    refine x_lsub C dX6_digit_207 ?_
    obtain ⟨tt, ht⟩ : ∃ tt, tt = ρ1 24 (jj + i) - p % 2147483648 - un := ⟨_, rfl⟩
    rw [← ht]
    refine x_lstore C (lv' := [(17, _), (10, _), (15, _), (14, _), (12, _), (5, _), (0, _), (1, _), (2, _)]) dX6_digit_208 (by decide) rfl ?_
    refine x_lload C dX6_digit_210 rfl ?_
    refine x_lconst0 C dX6_digit_212 ?_
    refine x_lif_ge (tgt := 221) C dX6_digit_213 dX6_digit_214 (by decide) (by omega) (by omega) (fun c_213 => ?_) (fun c_213 => ?_)
    · refine x_lconst0 C dX6_digit_221 ?_
      refine x_lstore C (lv' := [(12, _), (17, _), (10, _), (15, _), (14, _), (5, _), (0, _), (1, _), (2, _)]) dX6_digit_222 (by decide) rfl ?_
      refine x_aload_n C dX6_digit_224 rfl rfl ?_
      refine x_get C (Cn := RX6) (T := TX6) (N := 33) (ci := 6) 24 dX6_digit_225 m_w_6 m_f_RX6_66 rfl (by decide) rfl rfl ?_
      refine x_iload C dX6_digit_228 rfl ?_
      refine x_iload_n C dX6_digit_230 rfl rfl ?_
      refine x_iadd C dX6_digit_231 ?_
      refine x_lload C dX6_digit_232 rfl ?_
      refine x_lconst0 C dX6_digit_234 ?_
      refine x_lif_ge (tgt := 248) C dX6_digit_235 dX6_digit_236 (by decide) (by omega) (by omega) (fun c_235 => ?_) (fun c_235 => ?_)
      · refine x_lload C dX6_digit_248 rfl ?_
        refine x_l2i C dX6_digit_250 ?_
        refine r_ast C dX6_digit_251 (fun _ => rfl) (by omega) (by omega) ?_
        refine x_iinc C (lv' := [(14, _), (12, _), (17, _), (10, _), (15, _), (5, _), (0, _), (1, _), (2, _)]) dX6_digit_252 rfl (by decide) rfl ?_
        refine x_goto (tgt := 159) C dX6_digit_255 (by decide) ?_
        refine X.sub [0, 1, 3, 5, 6, 7, 8] rfl ?_
        rw [show (i : Int) + 1 = ((i + 1 : Nat) : Int) by omega]
        have hL : ρ1 24 (jj + i) + (-(cy + un)) - d * ρ 25 i = (tt) + (-(p / 2147483648 + 0)) * 2147483648 := by have := dm p; omega
        have hLm : (ρ1 24 (jj + i) + (-(cy + un)) - d * ρ 25 i) % 2147483648 = tt := by omega
        have hLd : (ρ1 24 (jj + i) + (-(cy + un)) - d * ρ 25 i) / 2147483648 = -(p / 2147483648 + 0) := by omega
        have hst := sb_step (L := ρ1 24 (jj + i) + (-(cy + un)) - d * ρ 25 i) (by rw [h2 _ (by omega)]) h5
        rw [hLm, hLd] at hst
        refine ih (i + 1) (by omega) (by omega) _ _ _ ?_ ?_ (fun q hq => by rw [up_n hq]; exact h3 q hq) (by omega) (by omega) (by rw [up_s, hij]; exact hst)
        · intro q hq1 hq2
          rw [up_s, hij]
          by_cases c : q = jj + i
          · rw [c, zup_s]; omega
          · rw [zup_n c]; exact h1 q hq1 hq2
        · intro q hq
          rw [up_s, hij, zup_n (by omega)]; exact h2 q (by omega)
      · omega
    · refine x_lconst1 C dX6_digit_217 ?_
      refine x_goto (tgt := 222) C dX6_digit_218 (by decide) ?_
      refine x_lstore C (lv' := [(12, _), (17, _), (10, _), (15, _), (14, _), (5, _), (0, _), (1, _), (2, _)]) dX6_digit_222 (by decide) rfl ?_
      refine x_aload_n C dX6_digit_224 rfl rfl ?_
      refine x_get C (Cn := RX6) (T := TX6) (N := 33) (ci := 6) 24 dX6_digit_225 m_w_6 m_f_RX6_66 rfl (by decide) rfl rfl ?_
      refine x_iload C dX6_digit_228 rfl ?_
      refine x_iload_n C dX6_digit_230 rfl rfl ?_
      refine x_iadd C dX6_digit_231 ?_
      refine x_lload C dX6_digit_232 rfl ?_
      refine x_lconst0 C dX6_digit_234 ?_
      refine x_lif_ge (tgt := 248) C dX6_digit_235 dX6_digit_236 (by decide) (by omega) (by omega) (fun c_235 => ?_) (fun c_235 => ?_)
      · omega
      · refine x_lload C dX6_digit_239 rfl ?_
        refine x_ldc2 C (z := 2147483648) dX6_digit_241 (C.2.2.2.2.1 _ m_k_RX6_195) (by decide) ?_
        refine x_ladd C dX6_digit_244 ?_
        refine x_goto (tgt := 250) C dX6_digit_245 (by decide) ?_
        refine x_l2i C dX6_digit_250 ?_
        refine r_ast C dX6_digit_251 (fun _ => rfl) (by omega) (by omega) ?_
        refine x_iinc C (lv' := [(14, _), (12, _), (17, _), (10, _), (15, _), (5, _), (0, _), (1, _), (2, _)]) dX6_digit_252 rfl (by decide) rfl ?_
        refine x_goto (tgt := 159) C dX6_digit_255 (by decide) ?_
        refine X.sub [0, 1, 3, 5, 6, 7, 8] rfl ?_
        rw [show (i : Int) + 1 = ((i + 1 : Nat) : Int) by omega]
        have hL : ρ1 24 (jj + i) + (-(cy + un)) - d * ρ 25 i = (tt + 2147483648) + (-(p / 2147483648 + 1)) * 2147483648 := by have := dm p; omega
        have hLm : (ρ1 24 (jj + i) + (-(cy + un)) - d * ρ 25 i) % 2147483648 = tt + 2147483648 := by omega
        have hLd : (ρ1 24 (jj + i) + (-(cy + un)) - d * ρ 25 i) / 2147483648 = -(p / 2147483648 + 1) := by omega
        have hst := sb_step (L := ρ1 24 (jj + i) + (-(cy + un)) - d * ρ 25 i) (by rw [h2 _ (by omega)]) h5
        rw [hLm, hLd] at hst
        refine ih (i + 1) (by omega) (by omega) _ _ _ ?_ ?_ (fun q hq => by rw [up_n hq]; exact h3 q hq) (by omega) (by omega) (by rw [up_s, hij]; exact hst)
        · intro q hq1 hq2
          rw [up_s, hij]
          by_cases c : q = jj + i
          · rw [c, zup_s]; omega
          · rw [zup_n c]; exact h1 q hq1 hq2
        · intro q hq
          rw [up_s, hij, zup_n (by omega)]; exact h2 q (by omega)
set_option maxHeartbeats 4000000 in
set_option maxRecDepth 100000 in
theorem rp_digB {p : Program} {l : Launch} {e : Env} {R : Room} {s : State} {m : MethodId} {args : Array Value} {below : List Frame} {meth : Method} {c : Code} {D : va_G} {ad : Nat → Nat} {Q : State → Prop} (C : Fx p s m args meth c D ad cX6_digit 21 (some .long) yX6_digit.cls tb) (ρ : St) (jj nn : Nat) (hnn : 0 < nn ∧ nn ≤ 2100) (hjn : jj + nn < 4200) (hV : ∀ i, i < nn → 0 ≤ ρ 25 i ∧ ρ 25 i < 2147483648) (d t0 : Int) (f0 : Nat → Int) (K : ∀ (ρ1 : St) (ov i18 : Int), (∀ i, jj ≤ i → i ≤ jj + nn → 0 ≤ ρ1 24 i ∧ ρ1 24 i < 2147483648) → (∀ q, ¬ (jj ≤ q ∧ q < jj + nn) → ρ1 24 q = f0 q) → (∀ q, q ≠ 24 → ρ1 q = ρ q) → (0 ≤ ov ∧ ov ≤ 1) → nv (ρ1 24) jj nn + ov * 2147483648 ^ nn = nv f0 jj nn - (-1) * nv (ρ 25) 0 nn → X p l e R s m args below meth c D ad 21 Q (rc D ad ρ1) 353 [(18, vi i18), (16, vl ov), (14, vl t0), (5, vl d), (0, .ref (ad 0)), (1, vi (jj : Int)), (2, vi (nn : Int))] []) (n i : Nat) (hn : nn - i < n) (hi : i ≤ nn) (ρ1 : St) (ov : Int) (h1 : ∀ i, jj ≤ i → i ≤ jj + nn → 0 ≤ ρ1 24 i ∧ ρ1 24 i < 2147483648) (h2 : ∀ q, ¬ (jj ≤ q ∧ q < jj + i) → ρ1 24 q = f0 q) (h3 : ∀ q, q ≠ 24 → ρ1 q = ρ q) (hov : 0 ≤ ov ∧ ov ≤ 1) (h5 : nv (ρ1 24) jj i + ov * 2147483648 ^ i = nv f0 jj i - (-1) * nv (ρ 25) 0 i) : X p l e R s m args below meth c D ad 21 Q (rc D ad ρ1) 294 [(18, vi (i : Int)), (16, vl ov), (14, vl t0), (5, vl d), (0, .ref (ad 0)), (1, vi (jj : Int)), (2, vi (nn : Int))] [] := by
  induction n generalizing i ρ1 ov with
  | zero => omega
  | succ n ih =>
  refine x_iload C dX6_digit_294 rfl ?_
  refine x_iload_n C dX6_digit_296 rfl rfl ?_
  refine x_icmp_ge (tgt := 353) C dX6_digit_297 (by decide) (by omega) (by omega) (fun c_297 => ?_) (fun c_297 => ?_)
  · obtain rfl : i = nn := by omega
    exact K ρ1 ov _ h1 h2 h3 hov h5
  · have hvi := hV i (by omega)
    have hui := h1 (jj + i) (by omega) (by omega)
    have hij : ((i : Int) + (jj : Int)).toNat = jj + i := by omega
    refine x_aload_n C dX6_digit_300 rfl rfl ?_
    refine x_get C (Cn := RX6) (T := TX6) (N := 33) (ci := 6) 24 dX6_digit_301 m_w_6 m_f_RX6_66 rfl (by decide) rfl rfl ?_
    refine x_iload C dX6_digit_304 rfl ?_
    refine x_iload_n C dX6_digit_306 rfl rfl ?_
    refine x_iadd C dX6_digit_307 ?_
    refine x_iald C dX6_digit_308 rfl (by omega) (by omega) ?_
    rw [hij]
    refine x_i2l C dX6_digit_309 (by omega) ?_
    refine x_aload_n C dX6_digit_310 rfl rfl ?_
    refine x_get C (Cn := RX6) (T := TX6) (N := 33) (ci := 6) 25 dX6_digit_311 m_w_6 m_f_RX6_69 rfl (by decide) rfl rfl ?_
    refine x_iload C dX6_digit_314 rfl ?_
    refine x_iald C dX6_digit_316 rfl (by omega) (by omega) ?_
    rw [Int.toNat_natCast, h3 25 (by decide)]
    refine x_i2l C dX6_digit_317 (by omega) ?_
    refine x_ladd C dX6_digit_318 ?_
    refine x_lload C dX6_digit_319 rfl ?_
    refine x_ladd C dX6_digit_321 ?_
    obtain ⟨p, hp⟩ : ∃ p, p = ρ1 24 (jj + i) + ρ 25 i + ov := ⟨_, rfl⟩
    rw [← hp]
    refine x_lstore C (lv' := [(19, _), (18, _), (16, _), (14, _), (5, _), (0, _), (1, _), (2, _)]) dX6_digit_322 (by decide) rfl ?_
    refine x_lload C dX6_digit_324 rfl ?_
    refine x_bipush C (z := 31) dX6_digit_326 (by decide) ?_
    refine x_lshr C dX6_digit_328 (by decide) (by omega) ?_
    rw [show p / 2 ^ (31 : Int).toNat = p / 2147483648 from rfl]
    refine x_lstore C (lv' := [(16, _), (19, _), (18, _), (14, _), (5, _), (0, _), (1, _), (2, _)]) dX6_digit_329 (by decide) rfl ?_
    refine x_aload_n C dX6_digit_331 rfl rfl ?_
    refine x_get C (Cn := RX6) (T := TX6) (N := 33) (ci := 6) 24 dX6_digit_332 m_w_6 m_f_RX6_66 rfl (by decide) rfl rfl ?_
    refine x_iload C dX6_digit_335 rfl ?_
    refine x_iload_n C dX6_digit_337 rfl rfl ?_
    refine x_iadd C dX6_digit_338 ?_
    refine x_lload C dX6_digit_339 rfl ?_
    refine x_ldc2 C (z := 2147483647) dX6_digit_341 (C.2.2.2.2.1 _ m_k_RX6_189) (by decide) ?_
    refine x_land C (z := _) dX6_digit_344 (lI_mask _) ?_
    refine x_l2i C dX6_digit_345 ?_
    refine r_ast C dX6_digit_346 (fun _ => rfl) (by omega) (by omega) ?_
    refine x_iinc C (lv' := [(18, _), (16, _), (19, _), (14, _), (5, _), (0, _), (1, _), (2, _)]) dX6_digit_347 rfl (by decide) rfl ?_
    refine x_goto (tgt := 294) C dX6_digit_350 (by decide) ?_
    refine X.sub [0, 1, 3, 4, 5, 6, 7] rfl ?_
    rw [show (i : Int) + 1 = ((i + 1 : Nat) : Int) by omega]
    have hst := sb_step (L := p) (by rw [← h2 _ (show ¬ (jj ≤ jj + i ∧ jj + i < jj + i) by omega)]; omega) h5
    refine ih (i + 1) (by omega) (by omega) _ _ ?_ ?_ (fun q hq => by rw [up_n hq]; exact h3 q hq) (by omega) (by rw [up_s, hij]; exact hst)
    · intro q hq1 hq2
      rw [up_s, hij]
      by_cases c : q = jj + i
      · rw [c, zup_s]; omega
      · rw [zup_n c]; exact h1 q hq1 hq2
    · intro q hq
      rw [up_s, hij, zup_n (by omega)]; exact h2 q (by omega)
