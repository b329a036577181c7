/-! THE REFERENCE'S SHIFTS -/
theorem iI_or {a b : Int} (k : Nat) (hk : k < 31) {c : Int} (ha : a = c * 2 ^ k) (hc : 0 ≤ c) (hb : 0 ≤ b ∧ b < 2 ^ k) (h : a + b < 2147483648) : iI a ||| iI b = iI (a + b) := by
  obtain ⟨cn, rfl⟩ := Int.eq_ofNat_of_zero_le hc
  obtain ⟨bn, rfl⟩ := Int.eq_ofNat_of_zero_le hb.1
  have hbn : bn < 2 ^ k := by have := hb.2; exact_mod_cast this
  have hcast : a = ((cn * 2 ^ k : Nat) : Int) := by rw [ha]; push_cast; rfl
  subst hcast
  have h' : cn * 2 ^ k + bn < 2 ^ 31 := by
    generalize cn * 2 ^ k = y at *
    omega
  apply Int32.toBitVec_inj.mp
  apply BitVec.eq_of_toNat_eq
  rw [Int32.toBitVec_or, BitVec.toNat_or]
  show (BitVec.ofInt 32 ((cn * 2 ^ k : Nat) : Int)).toNat ||| (BitVec.ofInt 32 (bn : Int)).toNat = (BitVec.ofInt 32 (((cn * 2 ^ k : Nat) : Int) + (bn : Int))).toNat
  rw [BitVec.toNat_ofInt, BitVec.toNat_ofInt, BitVec.toNat_ofInt]
  have e1 : (((cn * 2 ^ k : Nat) : Int) % ((2 ^ 32 : Nat) : Int)).toNat = cn * 2 ^ k := by omega
  have e2 : ((bn : Int) % ((2 ^ 32 : Nat) : Int)).toNat = bn := by omega
  have e3 : ((((cn * 2 ^ k : Nat) : Int) + (bn : Int)) % ((2 ^ 32 : Nat) : Int)).toNat = cn * 2 ^ k + bn := by omega
  rw [e1, e2, e3, Nat.mul_comm cn, ← Nat.two_pow_add_eq_or_of_lt hbn]
theorem iI_b30 {x : Int} (hx : 0 ≤ x ∧ x < 2147483648) : iI x &&& iI 1073741824 = iI (if 1073741824 ≤ x then 1073741824 else 0) := by
  obtain ⟨n, rfl⟩ := Int.eq_ofNat_of_zero_le hx.1
  apply Int32.toBitVec_inj.mp
  apply BitVec.eq_of_toNat_eq
  rw [Int32.toBitVec_and, BitVec.toNat_and]
  show (BitVec.ofInt 32 (n : Int)).toNat &&& (BitVec.ofInt 32 1073741824).toNat = (BitVec.ofInt 32 (if (1073741824 : Int) ≤ (n : Int) then 1073741824 else 0)).toNat
  have ha : ∀ y : Nat, y &&& 2 ^ 30 = if y.testBit 30 then 2 ^ 30 else 0 := by
    intro y
    apply Nat.eq_of_testBit_eq
    intro i
    rw [Nat.testBit_and, Nat.testBit_two_pow]
    by_cases c : 30 = i
    · subst c
      cases h : y.testBit 30
      · simp
      · rw [if_pos rfl, Nat.testBit_two_pow]; simp
    · cases h : y.testBit 30
      · simp [c]
      · rw [if_pos rfl, Nat.testBit_two_pow]; simp [c]
  rw [BitVec.toNat_ofInt, BitVec.toNat_ofInt, BitVec.toNat_ofInt, show ((1073741824 : Int) % ((2 ^ 32 : Nat) : Int)).toNat = 2 ^ 30 from by decide, ha, Nat.testBit_eq_decide_div_mod_eq, show ((n : Int) % ((2 ^ 32 : Nat) : Int)).toNat = n by omega]
  by_cases c : (1073741824 : Int) ≤ (n : Int)
  · rw [if_pos c, decide_eq_true (by omega)]; decide
  · rw [if_neg c, decide_eq_false (by omega)]; decide
def cl (f : Nat → Int) (s m : Nat) : Int := if m = 0 then 0 else f (m - 1) / 2 ^ (31 - s)
def sl (f : Nat → Int) (s : Nat) : Nat → Int := fun i => f i % 2 ^ (31 - s) * 2 ^ s + cl f s i
theorem cl_in {f : Nat → Int} {s m n : Nat} (hs : s ≤ 31) (h : ∀ i, i < n → 0 ≤ f i ∧ f i < 2147483648) (hm : m ≤ n) : 0 ≤ cl f s m ∧ cl f s m < 2 ^ s := by
  unfold cl
  by_cases c : m = 0
  · rw [if_pos c]; exact ⟨Int.le_refl _, zp_pos s⟩
  · rw [if_neg c]
    obtain ⟨-, h1, h2, -⟩ := mvup hs (h (m - 1) (by omega))
    exact ⟨h1, h2⟩
theorem sl_in {f : Nat → Int} {s n : Nat} (hs : s ≤ 31) (h : ∀ i, i < n → 0 ≤ f i ∧ f i < 2147483648) : ∀ i, i < n → 0 ≤ sl f s i ∧ sl f s i < 2147483648 := by
  intro i hi
  obtain ⟨-, -, -, h3, h4⟩ := mvup hs (h i hi)
  have := cl_in (m := i) hs h (by omega)
  unfold sl
  omega
theorem sl_nv {f : Nat → Int} {s : Nat} (hs : s ≤ 31) : ∀ {n : Nat}, (∀ i, i < n → 0 ≤ f i ∧ f i < 2147483648) → nv (sl f s) 0 n + cl f s n * 2147483648 ^ n = nv f 0 n * 2 ^ s
  | 0, _ => by simp [nv_0, cl]
  | n + 1, h => by
    have ih := sl_nv hs (n := n) (fun i hi => h i (by omega))
    obtain ⟨h1, -⟩ := mvup hs (h n (by omega))
    rw [nv_s, nv_s, Nat.zero_add, bp_s, Int.add_mul (nv f 0 n), ← ih]
    have e1 : cl f s (n + 1) = f n / 2 ^ (31 - s) := by unfold cl; rw [if_neg (by omega), Nat.add_sub_cancel]
    have e2 : sl f s n = f n % 2 ^ (31 - s) * 2 ^ s + cl f s n := rfl
    have e3 := congrArg (fun z => z * (2147483648 : Int) ^ n) h1
    simp only [Int.add_mul] at e3
    rw [e1, e2, Int.add_mul, Int.mul_assoc (f n) (2147483648 ^ n), Int.mul_comm (2147483648 ^ n) (2 ^ s), ← Int.mul_assoc (f n), Int.mul_comm (2147483648 ^ n) 2147483648, ← Int.mul_assoc (f n / 2 ^ (31 - s))]
    omega
theorem sl_mod {x : Int} {s : Nat} (hs : s ≤ 31) (hx : 0 ≤ x ∧ x < 2147483648) : x * 2 ^ s % 2147483648 = x % 2 ^ (31 - s) * 2 ^ s := by
  obtain ⟨h1, h2, h3, h4, h5⟩ := mvup hs hx
  have := zp_pos s
  omega
set_option maxHeartbeats 4000000 in
set_option maxRecDepth 100000 in
theorem rp_shift {p : Program} {l : Launch} {e : Env} {R : Room} {s : State} {m : MethodId} {args : Array Value} {below : List Frame} {meth : Method} {c : Code} {D : va_G} {ad : Nat → Nat} {Q : State → Prop} (C : Fx p s m args meth c D ad cX6_shiftOfV 2 (some .int) yX6_shiftOfV.cls tb) (ρ : St) (vn : Nat) (hvn : 0 < vn ∧ vn ≤ 2100) (e30 : ρ 0 30 = vn) (hv : 1 ≤ ρ 25 (vn - 1) ∧ ρ 25 (vn - 1) < 2147483648) (K : ∀ s1 : Nat, s1 ≤ 30 → 1073741824 ≤ ρ 25 (vn - 1) * 2 ^ s1 → ρ 25 (vn - 1) * 2 ^ s1 < 2147483648 → X p l e R s m args below meth c D ad 2 Q (rc D ad ρ) 27 [(1, vi (s1 : Int)), (0, .ref (ad 0))] []) (n s0 : Nat) (hn : 31 - s0 < n) (hs0 : s0 ≤ 30) (hx : ρ 25 (vn - 1) * 2 ^ s0 < 2147483648) : X p l e R s m args below meth c D ad 2 Q (rc D ad ρ) 2 [(1, vi (s0 : Int)), (0, .ref (ad 0))] [] := by
  induction n generalizing s0 with
  | zero => omega
  | succ n ih =>
  have hp0 := zp_pos s0
  have hge : (2 : Int) ^ s0 ≤ ρ 25 (vn - 1) * 2 ^ s0 := by
    have := Int.mul_le_mul_of_nonneg_right hv.1 (show (0 : Int) ≤ 2 ^ s0 by omega)
    omega
  refine x_aload_n C dX6_shiftOfV_2 rfl rfl ?_
  refine x_get C (Cn := RX6) (T := TX6) (N := 33) (ci := 6) 25 dX6_shiftOfV_3 m_w_6 m_f_RX6_69 rfl (by decide) rfl rfl ?_
  refine x_aload_n C dX6_shiftOfV_6 rfl rfl ?_
  refine x_get C (Cn := RX6) (T := TX6) (N := 33) (ci := 6) 30 dX6_shiftOfV_7 m_w_6 m_f_RX6_182 rfl (by decide) rfl rfl ?_
  rw [e30]
  refine x_iconst C dX6_shiftOfV_10 ?_
  refine x_isub C dX6_shiftOfV_11 ?_
  refine x_iald C dX6_shiftOfV_12 rfl (by omega) (by omega) ?_
  rw [show ((vn : Int) - 1).toNat = vn - 1 by omega]
  refine x_iload_n C dX6_shiftOfV_13 rfl rfl ?_
  refine x_ishl C dX6_shiftOfV_14 (by omega) ?_
  rw [Int.toNat_natCast]
  refine x_ldc C (z := 1073741824) dX6_shiftOfV_15 (C.2.2.2.2.1 _ m_k_RX6_185) (by decide) ?_
  refine x_iand C (z := _) dX6_shiftOfV_17 (iI_b30 (by omega)) ?_
  refine x_if_ne (tgt := 27) C dX6_shiftOfV_18 (by decide) (by split <;> omega) (fun c_18 => ?_) (fun c_18 => ?_)
  · exact K s0 hs0 (by by_cases c : 1073741824 ≤ ρ 25 (vn - 1) * 2 ^ s0; exact c; rw [if_neg c] at c_18; exact absurd rfl c_18) hx
  · have hlow : ρ 25 (vn - 1) * 2 ^ s0 < 1073741824 := by
      by_cases c : 1073741824 ≤ ρ 25 (vn - 1) * 2 ^ s0
      · rw [if_pos c] at c_18; omega
      · omega
    have hx1 : ρ 25 (vn - 1) * 2 ^ (s0 + 1) < 2147483648 := by rw [Int.pow_succ, ← Int.mul_assoc]; omega
    have hs1 : s0 + 1 ≤ 30 := by
      rcases Nat.lt_or_ge s0 30 with q | q
      · omega
      · obtain rfl : s0 = 30 := by omega
        omega
    refine x_iinc C (lv' := [(1, _), (0, _)]) dX6_shiftOfV_21 rfl (by decide) rfl ?_
    refine x_goto (tgt := 2) C dX6_shiftOfV_24 (by decide) ?_
    have hp0 := zp_pos s0
    have hge : (2 : Int) ^ s0 ≤ ρ 25 (vn - 1) * 2 ^ s0 := by
      have := Int.mul_le_mul_of_nonneg_right hv.1 (show (0 : Int) ≤ 2 ^ s0 by omega)
      omega
    rw [show (s0 : Int) + 1 = ((s0 + 1 : Nat) : Int) by omega]
    exact ih (s0 + 1) (by omega) hs1 hx1
set_option maxHeartbeats 4000000 in
set_option maxRecDepth 100000 in
theorem r_shiftOfV {l : Launch} {D : va_G} {ad : Nat → Nat} (ρ : St) (vn : Nat) (hvn : 0 < vn ∧ vn ≤ 2100) (e30 : ρ 0 30 = vn) (hv : 1 ≤ ρ 25 (vn - 1) ∧ ρ 25 (vn - 1) < 2147483648) : Rt l D ad yX6_shiftOfV (Cond.code yX6_shiftOfV cX6_shiftOfV 2 (some .int) :: tb) 0 0 [.ref (ad 0)] ρ (fun v ρ' => ρ = ρ' ∧ ∃ s : Nat, v = some (vi (s : Int)) ∧ s ≤ 30 ∧ 1073741824 ≤ ρ 25 (vn - 1) * 2 ^ s ∧ ρ 25 (vn - 1) * 2 ^ s < 2147483648) := by
  refine ct_of (by decide) rfl (Nat.le_of_ble_eq_true rfl) ?_
  intro p e s m below meth c C
  change X _ _ _ _ _ _ _ _ _ _ _ _ _ _ _ _ [(0, .ref (ad 0))] _
  refine x_iconst C dX6_shiftOfV_0 ?_
  refine x_istore_n C (lv' := [(1, _), (0, _)]) dX6_shiftOfV_1 rfl (by decide) rfl ?_
  refine rp_shift C ρ vn hvn e30 hv ?_ 32 0 (by omega) (by omega) (by rw [Int.pow_zero, Int.mul_one]; exact hv.2)
  intro s1 h1 h2 h3
  refine x_iload_n C dX6_shiftOfV_27 rfl rfl ?_
  exact x_iret C dX6_shiftOfV_28 ⟨_, rfl, rfl, s1, rfl, h1, h2, h3⟩
set_option maxHeartbeats 4000000 in
set_option maxRecDepth 100000 in
theorem rp_shlU {p : Program} {l : Launch} {e : Env} {R : Room} {s : State} {m : MethodId} {args : Array Value} {below : List Frame} {meth : Method} {c : Code} {D : va_G} {ad : Nat → Nat} {Q : State → Prop} (C : Fx p s m args meth c D ad cX6_divide 5 none yX6_divide.cls tb) (ρ : St) (un nn s0 : Nat) (hs : s0 ≤ 30) (hun : un < 4200) (f : Nat → Int) (hf : ∀ i, i < un + 1 → 0 ≤ f i ∧ f i < 2147483648) (K : ∀ (ρ1 : St) (i3 : Int), (∀ i, i < un + 1 → ρ1 24 i = sl f s0 i) → (∀ q, un < q → ρ1 24 q = ρ 24 q) → (∀ q, q ≠ 24 → ρ1 q = ρ q) → X p l e R s m args below meth c D ad 5 Q (rc D ad ρ1) 109 [(3, vi i3), (2, vi (nn : Int)), (1, vi (s0 : Int)), (0, .ref (ad 0))] []) (n i : Nat) (hn : i < n) (hi : i ≤ un) (ρ1 : St) (h1 : ∀ q, q ≤ i → ρ1 24 q = f q) (h2 : ∀ q, i < q → q < un + 1 → ρ1 24 q = sl f s0 q) (h4 : ∀ q, un < q → ρ1 24 q = ρ 24 q) (h3 : ∀ q, q ≠ 24 → ρ1 q = ρ q) : X p l e R s m args below meth c D ad 5 Q (rc D ad ρ1) 37 [(3, vi (i : Int)), (2, vi (nn : Int)), (1, vi (s0 : Int)), (0, .ref (ad 0))] [] := by
  induction n generalizing i ρ1 with
  | zero => omega
  | succ n ih =>
  refine x_iload_n C dX6_divide_37 rfl rfl ?_
  refine x_if_le (tgt := 89) C dX6_divide_38 (by decide) (by omega) (fun c_38 => ?_) (fun c_38 => ?_)
  · obtain rfl : i = 0 := by omega
    have hf0 := hf 0 (by omega)
    obtain ⟨-, -, -, mv1, mv2⟩ := mvup (s := s0) (by omega) hf0
    refine x_aload_n C dX6_divide_89 rfl rfl ?_
    refine x_get C (Cn := RX6) (T := TX6) (N := 33) (ci := 6) 24 dX6_divide_90 m_w_6 m_f_RX6_66 rfl (by decide) rfl rfl ?_
    refine x_iconst C dX6_divide_93 ?_
    refine x_aload_n C dX6_divide_94 rfl rfl ?_
    refine x_get C (Cn := RX6) (T := TX6) (N := 33) (ci := 6) 24 dX6_divide_95 m_w_6 m_f_RX6_66 rfl (by decide) rfl rfl ?_
    refine x_iconst C dX6_divide_98 ?_
    refine x_iald C dX6_divide_99 rfl (by omega) (by omega) ?_
    rw [show ((0 : Int)).toNat = 0 from rfl, h1 0 (Nat.le_refl _)]
    refine x_i2l C dX6_divide_100 (by omega) ?_
    refine x_iload_n C dX6_divide_101 rfl rfl ?_
    refine x_lshl C dX6_divide_102 (by omega) ?_
    rw [Int.toNat_natCast]
    refine x_ldc2 C (z := 2147483647) dX6_divide_103 (C.2.2.2.2.1 _ m_k_RX6_189) (by decide) ?_
    refine x_land C (z := _) dX6_divide_106 (lI_mask _) ?_
    rw [sl_mod (by omega) hf0]
    refine x_l2i C dX6_divide_107 ?_
    refine r_ast C dX6_divide_108 (fun _ => rfl) (by omega) (by omega) ?_
    refine K _ _ ?_ ?_ (fun q hq => by rw [up_n hq]; exact h3 q hq)
    · intro i hi
      rw [up_s, show ((0 : Int)).toNat = 0 from rfl]
      by_cases c : i = 0
      · rw [c, zup_s]; unfold sl cl; rw [if_pos rfl, Int.add_zero]
      · rw [zup_n c]; exact h2 i (by omega) hi
    · intro q hq
      rw [up_s, show ((0 : Int)).toNat = 0 from rfl, zup_n (by omega)]; exact h4 q hq
  · obtain ⟨i, rfl⟩ : ∃ i1, i = i1 + 1 := ⟨i - 1, by omega⟩
    have hfi := hf (i + 1) (by omega)
    have hfj := hf i (by omega)
    obtain ⟨-, -, -, mv1, mv2⟩ := mvup (s := s0) (by omega) hfi
    obtain ⟨-, mw1, mw2, -⟩ := mvup (s := s0) (by omega) hfj
    have hmm := Int.emod_nonneg (f (i + 1)) (show (2 : Int) ^ (31 - s0) ≠ 0 by have := zp_pos (31 - s0); omega)
    refine x_aload_n C dX6_divide_41 rfl rfl ?_
    refine x_get C (Cn := RX6) (T := TX6) (N := 33) (ci := 6) 24 dX6_divide_42 m_w_6 m_f_RX6_66 rfl (by decide) rfl rfl ?_
    refine x_iload_n C dX6_divide_45 rfl rfl ?_
    refine x_aload_n C dX6_divide_46 rfl rfl ?_
    refine x_get C (Cn := RX6) (T := TX6) (N := 33) (ci := 6) 24 dX6_divide_47 m_w_6 m_f_RX6_66 rfl (by decide) rfl rfl ?_
    refine x_iload_n C dX6_divide_50 rfl rfl ?_
    refine x_iald C dX6_divide_51 rfl (by omega) (by omega) ?_
    rw [Int.toNat_natCast, h1 (i + 1) (Nat.le_refl _)]
    refine x_i2l C dX6_divide_52 (by omega) ?_
    refine x_iload_n C dX6_divide_53 rfl rfl ?_
    refine x_lshl C dX6_divide_54 (by omega) ?_
    rw [Int.toNat_natCast]
    refine x_ldc2 C (z := 2147483647) dX6_divide_55 (C.2.2.2.2.1 _ m_k_RX6_189) (by decide) ?_
    refine x_land C (z := _) dX6_divide_58 (lI_mask _) ?_
    rw [sl_mod (by omega) hfi]
    refine x_l2i C dX6_divide_59 ?_
    refine x_iload_n C dX6_divide_60 rfl rfl ?_
    refine x_if_ne (tgt := 68) C dX6_divide_61 (by decide) (by omega) (fun c_61 => ?_) (fun c_61 => ?_)
    · refine x_aload_n C dX6_divide_68 rfl rfl ?_
      refine x_get C (Cn := RX6) (T := TX6) (N := 33) (ci := 6) 24 dX6_divide_69 m_w_6 m_f_RX6_66 rfl (by decide) rfl rfl ?_
      refine x_iload_n C dX6_divide_72 rfl rfl ?_
      refine x_iconst C dX6_divide_73 ?_
      refine x_isub C dX6_divide_74 ?_
      refine x_iald C dX6_divide_75 rfl (by omega) (by omega) ?_
      rw [show (((i + 1 : Nat) : Int) - 1).toNat = i by omega, h1 i (by omega)]
      refine x_bipush C (z := 31) dX6_divide_76 (by decide) ?_
      refine x_iload_n C dX6_divide_78 rfl rfl ?_
      refine x_isub C dX6_divide_79 ?_
      refine x_ishr C dX6_divide_80 (by omega) (by omega) ?_
      rw [show ((31 : Int) - (s0 : Int)).toNat = 31 - s0 by omega]
      have hY : (0 : Int) ≤ f i / 2 ^ (31 - s0) ∧ f i / 2 ^ (31 - s0) < 2 ^ s0 := ⟨mw1, mw2⟩
      have hval : f (i + 1) % 2 ^ (31 - s0) * 2 ^ s0 + f i / 2 ^ (31 - s0) = sl f s0 (i + 1) := by
        unfold sl cl
        rw [if_neg (by omega), Nat.add_sub_cancel]
      refine x_ior C (z := _) dX6_divide_81 (iI_or _ (by omega) rfl hmm hY (by omega)) ?_
      refine r_ast C dX6_divide_82 (fun _ => rfl) (by omega) (by omega) ?_
      refine x_iinc C (lv' := [(3, _), (2, _), (1, _), (0, _)]) dX6_divide_83 rfl (by decide) rfl ?_
      refine x_goto (tgt := 37) C dX6_divide_86 (by decide) ?_
      rw [show ((i + 1 : Nat) : Int) + -1 = (i : Int) by omega]
      refine ih i (by omega) (by omega) _ ?_ ?_ ?_ (fun q hq => by rw [up_n hq]; exact h3 q hq)
      · intro q hq; rw [up_s, Int.toNat_natCast, zup_n (by omega)]; exact h1 q (by omega)
      · intro q hq1 hq2
        rw [up_s, Int.toNat_natCast]
        by_cases c : q = i + 1
        · rw [c, zup_s]; exact hval
        · rw [zup_n c]; exact h2 q (by omega) hq2
      · intro q hq; rw [up_s, Int.toNat_natCast, zup_n (by omega)]; exact h4 q hq
    · obtain rfl : s0 = 0 := by omega
      have hY : (0 : Int) ≤ 0 ∧ (0 : Int) < 2 ^ 0 := by decide
      have hval : f (i + 1) % 2 ^ (31 - 0) * 2 ^ 0 + 0 = sl f 0 (i + 1) := by
        have : f i / 2 ^ (31 - 0) = 0 := Int.ediv_eq_zero_of_lt hfj.1 hfj.2
        unfold sl cl
        rw [if_neg (by omega), Nat.add_sub_cancel, this]
      refine x_iconst C dX6_divide_64 ?_
      refine x_goto (tgt := 81) C dX6_divide_65 (by decide) ?_
      refine x_ior C (z := _) dX6_divide_81 (iI_or _ (by omega) rfl hmm hY (by omega)) ?_
      refine r_ast C dX6_divide_82 (fun _ => rfl) (by omega) (by omega) ?_
      refine x_iinc C (lv' := [(3, _), (2, _), (1, _), (0, _)]) dX6_divide_83 rfl (by decide) rfl ?_
      refine x_goto (tgt := 37) C dX6_divide_86 (by decide) ?_
      rw [show ((i + 1 : Nat) : Int) + -1 = (i : Int) by omega]
      refine ih i (by omega) (by omega) _ ?_ ?_ ?_ (fun q hq => by rw [up_n hq]; exact h3 q hq)
      · intro q hq; rw [up_s, Int.toNat_natCast, zup_n (by omega)]; exact h1 q (by omega)
      · intro q hq1 hq2
        rw [up_s, Int.toNat_natCast]
        by_cases c : q = i + 1
        · rw [c, zup_s]; exact hval
        · rw [zup_n c]; exact h2 q (by omega) hq2
      · intro q hq; rw [up_s, Int.toNat_natCast, zup_n (by omega)]; exact h4 q hq
