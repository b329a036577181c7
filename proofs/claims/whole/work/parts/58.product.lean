/-! RECKONING: the highest limb that isn't 0; the product -/
def LM (g : Nat × Nat × Nat × Nat) (σ : St) : Prop := ∀ i, i < g.2.1 → 0 ≤ σ 2 i ∧ σ 2 i < 2147483648
theorem LM.lim {g : Nat × Nat × Nat × Nat} {σ : St} (h : LM g σ) {a n : Nat} (ha : a + n ≤ g.2.1) : lim (σ 2) a n := fun i hi => h (a + i) (by omega)
theorem LM.up {g : Nat × Nat × Nat × Nat} {σ : St} (h : LM g σ) {a : Nat} {z : Int} (hz : 0 ≤ z ∧ z < 2147483648) : LM g (up σ 2 a z) := fun i hi => by
  rw [up_s]
  by_cases c : i = a
  · rw [c, zup_s]; exact hz
  · rw [zup_n c]; exact h i hi
def sgP (f : Nat → Int) (a n r : Nat) : Prop := r ≤ n ∧ (∀ i, r ≤ i → i < n → f (a + i) = 0) ∧ (0 < r → f (a + (r - 1)) ≠ 0)
theorem mulB {x y : Int} (hx : 0 ≤ x ∧ x < 2147483648) (hy : 0 ≤ y ∧ y < 2147483648) : 0 ≤ x * y ∧ x * y ≤ 4611686014132420609 := by
  refine ⟨Int.mul_nonneg hx.1 hy.1, ?_⟩
  have h1 : x * y ≤ 2147483647 * y := Int.mul_le_mul_of_nonneg_right (by omega) hy.1
  omega
theorem dm (s : Int) : s / 2147483648 * 2147483648 + s % 2147483648 = s := by have := Int.mul_ediv_add_emod s 2147483648; omega
theorem dmP (s P : Int) : s % 2147483648 * P + s / 2147483648 * (P * 2147483648) = s * P := by
  have h := congrArg (fun z => z * P) (dm s)
  simp only [Int.add_mul] at h
  rw [Int.mul_comm P, ← Int.mul_assoc]
  omega
/-- a step of the inner loop: what is left and carried -/
theorem ap_step {F f : Nat → Int} {r b j : Nat} {x cy : Int} (heq : nv f r j + cy * 2147483648 ^ j = nv F r j + x * nv F b j) :
    nv (zup f (r + j) ((F (r + j) + x * F (b + j) + cy) % 2147483648)) r (j + 1) + (F (r + j) + x * F (b + j) + cy) / 2147483648 * 2147483648 ^ (j + 1) = nv F r (j + 1) + x * nv F b (j + 1) := by
  rw [nv_s, nv_s, nv_s, zup_s, bp_s, nv_ext (g := f) (b := r) (fun i hi => zup_n (by omega))]
  have h1 := dmP (F (r + j) + x * F (b + j) + cy) (2147483648 ^ j)
  have h2 : (F (r + j) + x * F (b + j) + cy) * 2147483648 ^ j = F (r + j) * 2147483648 ^ j + x * F (b + j) * 2147483648 ^ j + cy * 2147483648 ^ j := by rw [Int.add_mul, Int.add_mul]
  have h3 : x * (nv F b j + F (b + j) * 2147483648 ^ j) = x * nv F b j + x * F (b + j) * 2147483648 ^ j := by rw [Int.mul_add, Int.mul_assoc]
  omega
/-- a round of the outer loop -/
theorem ap_round {F f f' : Nat → Int} {t a b i m : Nat} {cy : Int} (h1 : nv f t (i + m) = nv F a i * nv F b m) (h2 : nv f' (t + i) m + cy * 2147483648 ^ m = nv f (t + i) m + F (a + i) * nv F b m) (h3 : ∀ q, q < t + i → f' q = f q) :
    nv (zup f' (t + i + m) cy) t (i + 1 + m) = nv F a (i + 1) * nv F b m := by
  rw [show i + 1 + m = i + (m + 1) by omega, nv_add, nv_s, zup_s, nv_ext (g := f) (b := t) (f := zup f' (t + i + m) cy) (a := t) (n := i) (fun q hq => by rw [zup_n (by omega)]; exact h3 _ (by omega)), nv_ext (g := f') (b := t + i) (f := zup f' (t + i + m) cy) (a := t + i) (n := m) (fun q hq => zup_n (by omega)), h2]
  rw [nv_add] at h1
  rw [Int.mul_add, ← Int.add_assoc, h1, nv_s, Int.add_mul, Int.mul_comm (F (a + i)) (2147483648 ^ i), Int.mul_assoc]
set_option maxHeartbeats 4000000 in
set_option maxRecDepth 100000 in
theorem lp_significant {p : Program} {l : Launch} {e : Env} {R : Room} {s : State} {m : MethodId} {args : Array Value} {below : List Frame} {meth : Method} {c : Code} {D : va_G} {ad : Nat → Nat} {g : Nat × Nat × Nat × Nat} {Q : State → Prop} (C : Fx p s m args meth c D ad cX4_significant 4 (some .int) yX4_significant.cls tb) (hg : 3 ≤ g.1 ∧ g.1 ≤ 11 ∧ 8 ≤ g.2.1 ∧ g.2.1 ≤ 2048 ∧ 1 ≤ g.2.2.1 ∧ g.2.2.1 ≤ 24 ∧ 1 ≤ g.2.2.2 ∧ g.2.2.2 ≤ 12) (σ : St) (hL : LM g σ) (a n0 : Nat) (ha : a + n0 ≤ g.2.1) (K : ∀ (r : Nat) pc lv, (pc = 20 ∨ pc = 28) → sgP (σ 2) a n0 r → X p l e R s m args below meth c D ad 4 Q (kc D ad g σ) pc lv [vi (r : Int)]) (n r : Nat) (hn : r < n) (hr : r ≤ n0) (hb : ∀ i, r ≤ i → i < n0 → σ 2 (a + i) = 0) : X p l e R s m args below meth c D ad 4 Q (kc D ad g σ) 2 [(3, vi (r : Int)), (0, .ref (ad 5)), (1, vi (a : Int)), (2, vi (n0 : Int))] [] := by
  induction n generalizing r with
  | zero => omega
  | succ n ih =>
  refine x_iload_n C dX4_significant_2 rfl rfl ?_
  refine x_if_le (tgt := 27) C dX4_significant_3 (by decide) (by omega) (fun c_3 => ?_) (fun c_3 => ?_)
  · refine x_iconst C dX4_significant_27 ?_
    obtain rfl : r = 0 := by omega
    exact K 0 _ _ (Or.inr rfl) ⟨hr, hb, fun q => by omega⟩
  · refine x_aload_n C dX4_significant_6 rfl rfl ?_
    refine x_get C (Cn := RX4) (T := TX4) (N := 6) (ci := 4) 0 dX4_significant_7 m_w_4 m_f_RX4_9 rfl (by decide) rfl rfl ?_
    refine x_iload_n C dX4_significant_10 rfl rfl ?_
    refine x_iload_n C dX4_significant_11 rfl rfl ?_
    refine x_iadd C dX4_significant_12 ?_
    refine x_iconst C dX4_significant_13 ?_
    refine x_isub C dX4_significant_14 ?_
    refine x_iald C dX4_significant_15 rfl (by omega) (by omega) ?_
    rw [show ((a : Int) + (r : Int) - 1).toNat = a + (r - 1) by omega]
    have hl := hL (a + (r - 1)) (by omega)
    refine x_if_eq (tgt := 21) C dX4_significant_16 (by decide) (by omega) (fun c_16 => ?_) (fun c_16 => ?_)
    · refine x_iinc C (lv' := [(3, _), (0, _), (1, _), (2, _)]) dX4_significant_21 rfl (by decide) rfl ?_
      refine x_goto (tgt := 2) C dX4_significant_24 (by decide) ?_
      obtain ⟨r, rfl⟩ : ∃ r1, r = r1 + 1 := ⟨r - 1, by omega⟩
      rw [show ((r + 1 : Nat) : Int) + -1 = (r : Int) by omega]
      exact ih r (by omega) (by omega) (fun i h1 h2 => if q : i = r then by rw [q]; exact c_16 else hb i (by omega) h2)
    · refine x_iload_n C dX4_significant_19 rfl rfl ?_
      exact K r _ _ (Or.inl rfl) ⟨hr, hb, fun _ => c_16⟩
set_option maxHeartbeats 4000000 in
set_option maxRecDepth 100000 in
theorem c_significant {l : Launch} {D : va_G} {ad : Nat → Nat} {g : Nat × Nat × Nat × Nat} (hg : 3 ≤ g.1 ∧ g.1 ≤ 11 ∧ 8 ≤ g.2.1 ∧ g.2.1 ≤ 2048 ∧ 1 ≤ g.2.2.1 ∧ g.2.2.1 ≤ 24 ∧ 1 ≤ g.2.2.2 ∧ g.2.2.2 ≤ 12) (σ : St) (hL : LM g σ) (a n0 : Nat) (ha : a + n0 ≤ g.2.1) : Kt l D ad g yX4_significant (Cond.code yX4_significant cX4_significant 4 (some .int) :: tb) 0 0 [.ref (ad 5), vi (a : Int), vi (n0 : Int)] σ (fun v σ' => σ = σ' ∧ ∃ r : Nat, v = some (vi (r : Int)) ∧ sgP (σ 2) a n0 r) := by
  refine ct_of (by decide) rfl (Nat.le_of_ble_eq_true rfl) ?_
  intro p e s m below meth c C
  change X _ _ _ _ _ _ _ _ _ _ _ _ _ _ _ _ [(0, .ref (ad 5)), (1, vi (a : Int)), (2, vi (n0 : Int))] _
  refine x_iload_n C dX4_significant_0 rfl rfl ?_
  refine x_istore_n C (lv' := [(3, _), (0, _), (1, _), (2, _)]) dX4_significant_1 rfl (by decide) rfl ?_
  refine lp_significant C hg σ hL a n0 ha ?_ (n0 + 1) n0 (by omega) (by omega) (fun i h1 h2 => by omega)
  intro r pc lv hpc hr
  rcases hpc with rfl | rfl
  · exact x_iret C dX4_significant_20 ⟨_, rfl, rfl, r, rfl, hr⟩
  · exact x_iret C dX4_significant_28 ⟨_, rfl, rfl, r, rfl, hr⟩
set_option maxHeartbeats 4000000 in
set_option maxRecDepth 100000 in
theorem lp_addProductI {p : Program} {l : Launch} {e : Env} {R : Room} {s : State} {m : MethodId} {args : Array Value} {below : List Frame} {meth : Method} {c : Code} {D : va_G} {ad : Nat → Nat} {g : Nat × Nat × Nat × Nat} {Q : State → Prop} (C : Fx p s m args meth c D ad cX4_addProduct 15 none yX4_addProduct.cls tb) (hg : 3 ≤ g.1 ∧ g.1 ≤ 11 ∧ 8 ≤ g.2.1 ∧ g.2.1 ≤ 2048 ∧ 1 ≤ g.2.2.1 ∧ g.2.2.1 ≤ 24 ∧ 1 ≤ g.2.2.2 ∧ g.2.2.2 ≤ 12) (σ : St) (t a n0 b m0 : Nat) (ht : t + n0 + m0 ≤ g.2.1) (ha : a + n0 ≤ g.2.1) (hb : b + m0 ≤ g.2.1) (hda : a + n0 ≤ t ∨ t + n0 + m0 ≤ a) (hdb : b + m0 ≤ t ∨ t + n0 + m0 ≤ b) (i : Nat) (hi : i < n0) (x : Int) (hx : 0 ≤ x ∧ x < 2147483648) (K : ∀ (σ' : St) (cy : Int) lv, LM g σ' → (∀ q, q ≠ 2 → σ' q = σ q) → (∀ q, ¬ (t + i ≤ q ∧ q < t + i + m0) → σ' 2 q = σ 2 q) → 0 ≤ cy → cy < 2147483648 → nv (σ' 2) (t + i) m0 + cy * 2147483648 ^ m0 = nv (σ 2) (t + i) m0 + x * nv (σ 2) b m0 → lk 0 lv = some (.ref (ad 5)) → lk 9 lv = some (vi ((t + i : Nat) : Int)) → lk 5 lv = some (vi (m0 : Int)) → lk 10 lv = some (vl cy) → lv_pick lv [4, 5, 6, 7, 8, 9, 10] = [(6, vi (i : Int)), (0, .ref (ad 5)), (1, vi (t : Int)), (2, vi (a : Int)), (3, vi (n0 : Int)), (4, vi (b : Int)), (5, vi (m0 : Int))] → X p l e R s m args below meth c D ad 15 Q (kc D ad g σ') 101 lv []) (n j : Nat) (hn : m0 - j < n) (hj : j ≤ m0) (cy : Int) (hcy : 0 ≤ cy ∧ cy < 2147483648) (σ1 : St) (hL : LM g σ1) (hrow : ∀ q, q ≠ 2 → σ1 q = σ q) (hfr : ∀ q, ¬ (t + i ≤ q ∧ q < t + i + j) → σ1 2 q = σ 2 q) (heq : nv (σ1 2) (t + i) j + cy * 2147483648 ^ j = nv (σ 2) (t + i) j + x * nv (σ 2) b j) : X p l e R s m args below meth c D ad 15 Q (kc D ad g σ1) 33 [(12, vi (j : Int)), (10, vl cy), (9, vi ((t + i : Nat) : Int)), (7, vl x), (6, vi (i : Int)), (0, .ref (ad 5)), (1, vi (t : Int)), (2, vi (a : Int)), (3, vi (n0 : Int)), (4, vi (b : Int)), (5, vi (m0 : Int))] [] := by
  induction n generalizing j cy σ1 with
  | zero => omega
  | succ n ih =>
  refine x_iload C dX4_addProduct_33 rfl ?_
  refine x_iload C dX4_addProduct_35 rfl ?_
  refine x_icmp_ge (tgt := 101) C dX4_addProduct_37 (by decide) (by omega) (by omega) (fun c_37 => ?_) (fun c_37 => ?_)
  · obtain rfl : j = m0 := by omega
    exact K σ1 cy _ hL hrow hfr hcy.1 hcy.2 heq rfl rfl rfl rfl rfl
  · refine x_aload_n C dX4_addProduct_40 rfl rfl ?_
    refine x_get C (Cn := RX4) (T := TX4) (N := 6) (ci := 4) 0 dX4_addProduct_41 m_w_4 m_f_RX4_9 rfl (by decide) rfl rfl ?_
    refine x_iload C dX4_addProduct_44 rfl ?_
    refine x_iload C dX4_addProduct_46 rfl ?_
    refine x_iadd C dX4_addProduct_48 ?_
    refine x_iald C dX4_addProduct_49 rfl (by omega) (by omega) ?_
    rw [show (((t + i : Nat) : Int) + (j : Int)).toNat = t + i + j by omega]
    have hl1 := hL (t + i + j) (by omega)
    refine x_i2l C dX4_addProduct_50 (by omega) ?_
    refine x_lload C dX4_addProduct_51 rfl ?_
    refine x_aload_n C dX4_addProduct_53 rfl rfl ?_
    refine x_get C (Cn := RX4) (T := TX4) (N := 6) (ci := 4) 0 dX4_addProduct_54 m_w_4 m_f_RX4_9 rfl (by decide) rfl rfl ?_
    refine x_iload C dX4_addProduct_57 rfl ?_
    refine x_iload C dX4_addProduct_59 rfl ?_
    refine x_iadd C dX4_addProduct_61 ?_
    refine x_iald C dX4_addProduct_62 rfl (by omega) (by omega) ?_
    rw [show ((b : Int) + (j : Int)).toNat = b + j by omega]
    have hl2 := hL (b + j) (by omega)
    have hmul := mulB hx hl2
    refine x_i2l C dX4_addProduct_63 (by omega) ?_
    refine x_lmul C dX4_addProduct_64 ?_
    refine x_ladd C dX4_addProduct_65 ?_
    refine x_lload C dX4_addProduct_66 rfl ?_
    refine x_ladd C dX4_addProduct_68 ?_
    obtain ⟨s0, es⟩ : ∃ s0, s0 = σ 2 (t + i + j) + x * σ 2 (b + j) + cy := ⟨_, rfl⟩
    have e1 := hfr (t + i + j) (by omega)
    have e2 := hfr (b + j) (by omega)
    rw [e1] at hl1
    rw [e2] at hl2 hmul
    rw [e1, e2, ← es]
    have hs0 : 0 ≤ s0 ∧ s0 < 4611686018427387904 := by rw [es]; omega
    refine x_lstore C (lv' := [(13, _), (12, _), (10, _), (9, _), (7, _), (6, _), (0, _), (1, _), (2, _), (3, _), (4, _), (5, _)]) dX4_addProduct_69 (by decide) rfl ?_
    refine x_aload_n C dX4_addProduct_71 rfl rfl ?_
    refine x_get C (Cn := RX4) (T := TX4) (N := 6) (ci := 4) 0 dX4_addProduct_72 m_w_4 m_f_RX4_9 rfl (by decide) rfl rfl ?_
    refine x_iload C dX4_addProduct_75 rfl ?_
    refine x_iload C dX4_addProduct_77 rfl ?_
    refine x_iadd C dX4_addProduct_79 ?_
    refine x_lload C dX4_addProduct_80 rfl ?_
    refine x_ldc2 C (z := 2147483647) dX4_addProduct_82 (C.2.2.2.2.1 _ m_k_RX4_15) (by decide) ?_
    refine x_land C (z := (s0 % 2147483648)) dX4_addProduct_85 (lI_mask s0) ?_
    refine x_l2i C dX4_addProduct_86 ?_
    refine k_ast C dX4_addProduct_87 (fun _ => rfl) (by omega) (by omega) ?_
    rw [show (((t + i : Nat) : Int) + (j : Int)).toNat = t + i + j by omega]
    refine x_lload C dX4_addProduct_88 rfl ?_
    refine x_bipush C (z := 31) dX4_addProduct_90 (by decide) ?_
    refine x_lshr C dX4_addProduct_92 (by omega) (by omega) ?_
    rw [show (31 : Int).toNat = 31 from rfl, show (2 : Int) ^ 31 = 2147483648 from by decide]
    refine x_lstore C (lv' := [(10, _), (13, _), (12, _), (9, _), (7, _), (6, _), (0, _), (1, _), (2, _), (3, _), (4, _), (5, _)]) dX4_addProduct_93 (by decide) rfl ?_
    refine x_iinc C (lv' := [(12, _), (10, _), (13, _), (9, _), (7, _), (6, _), (0, _), (1, _), (2, _), (3, _), (4, _), (5, _)]) dX4_addProduct_95 rfl (by decide) rfl ?_
    refine x_goto (tgt := 33) C dX4_addProduct_98 (by decide) ?_
    refine X.sub [0, 1, 3, 4, 5, 6, 7, 8, 9, 10, 11] rfl ?_
    rw [show (j : Int) + 1 = ((j + 1 : Nat) : Int) by omega]
    have hst := ap_step heq
    rw [← es] at hst
    refine ih (j + 1) (by omega) (by omega) _ (by omega) _ (hL.up (by omega)) ?_ ?_ ?_
    · intro q hq; rw [up_n hq]; exact hrow q hq
    · intro q hq; rw [up_s, zup_n (by omega)]; exact hfr q (by omega)
    · rw [up_s]; exact hst
set_option maxHeartbeats 4000000 in
set_option maxRecDepth 100000 in
theorem lp_addProduct {p : Program} {l : Launch} {e : Env} {R : Room} {s : State} {m : MethodId} {args : Array Value} {below : List Frame} {meth : Method} {c : Code} {D : va_G} {ad : Nat → Nat} {g : Nat × Nat × Nat × Nat} {Q : State → Prop} (C : Fx p s m args meth c D ad cX4_addProduct 15 none yX4_addProduct.cls tb) (hg : 3 ≤ g.1 ∧ g.1 ≤ 11 ∧ 8 ≤ g.2.1 ∧ g.2.1 ≤ 2048 ∧ 1 ≤ g.2.2.1 ∧ g.2.2.1 ≤ 24 ∧ 1 ≤ g.2.2.2 ∧ g.2.2.2 ≤ 12) (σ : St) (t a n0 b m0 : Nat) (ht : t + n0 + m0 ≤ g.2.1) (ha : a + n0 ≤ g.2.1) (hb : b + m0 ≤ g.2.1) (hda : a + n0 ≤ t ∨ t + n0 + m0 ≤ a) (hdb : b + m0 ≤ t ∨ t + n0 + m0 ≤ b) (K : ∀ (σ' : St) lv, LM g σ' → (∀ q, q ≠ 2 → σ' q = σ q) → (∀ q, ¬ (t ≤ q ∧ q < t + n0 + m0) → σ' 2 q = σ 2 q) → nv (σ' 2) t (n0 + m0) = nv (σ 2) a n0 * nv (σ 2) b m0 → X p l e R s m args below meth c D ad 15 Q (kc D ad g σ') 120 lv []) (n i : Nat) (hn : n0 - i < n) (hi : i ≤ n0) (σ1 : St) (hL : LM g σ1) (hrow : ∀ q, q ≠ 2 → σ1 q = σ q) (hfr : ∀ q, ¬ (t ≤ q ∧ q < t + n0 + m0) → σ1 2 q = σ 2 q) (heq : nv (σ1 2) t (i + m0) = nv (σ 2) a i * nv (σ 2) b m0) : X p l e R s m args below meth c D ad 15 Q (kc D ad g σ1) 3 [(6, vi (i : Int)), (0, .ref (ad 5)), (1, vi (t : Int)), (2, vi (a : Int)), (3, vi (n0 : Int)), (4, vi (b : Int)), (5, vi (m0 : Int))] [] := by
  induction n generalizing i σ1 with
  | zero => omega
  | succ n ih =>
  refine x_iload C dX4_addProduct_3 rfl ?_
  refine x_iload_n C dX4_addProduct_5 rfl rfl ?_
  refine x_icmp_ge (tgt := 120) C dX4_addProduct_6 (by decide) (by omega) (by omega) (fun c_6 => ?_) (fun c_6 => ?_)
  · obtain rfl : i = n0 := by omega
    exact K σ1 _ hL hrow hfr heq
  · refine x_aload_n C dX4_addProduct_9 rfl rfl ?_
    refine x_get C (Cn := RX4) (T := TX4) (N := 6) (ci := 4) 0 dX4_addProduct_10 m_w_4 m_f_RX4_9 rfl (by decide) rfl rfl ?_
    refine x_iload_n C dX4_addProduct_13 rfl rfl ?_
    refine x_iload C dX4_addProduct_14 rfl ?_
    refine x_iadd C dX4_addProduct_16 ?_
    refine x_iald C dX4_addProduct_17 rfl (by omega) (by omega) ?_
    rw [show ((a : Int) + (i : Int)).toNat = a + i by omega]
    have hl1 := hL (a + i) (by omega)
    refine x_i2l C dX4_addProduct_18 (by omega) ?_
    refine x_lstore C (lv' := [(7, _), (6, _), (0, _), (1, _), (2, _), (3, _), (4, _), (5, _)]) dX4_addProduct_19 (by decide) rfl ?_
    refine x_iload_n C dX4_addProduct_21 rfl rfl ?_
    refine x_iload C dX4_addProduct_22 rfl ?_
    refine x_iadd C dX4_addProduct_24 ?_
    refine x_istore C (lv' := [(9, _), (7, _), (6, _), (0, _), (1, _), (2, _), (3, _), (4, _), (5, _)]) dX4_addProduct_25 (by decide) rfl ?_
    refine x_lconst0 C dX4_addProduct_27 ?_
    refine x_lstore C (lv' := [(10, _), (9, _), (7, _), (6, _), (0, _), (1, _), (2, _), (3, _), (4, _), (5, _)]) dX4_addProduct_28 (by decide) rfl ?_
    refine x_iconst C dX4_addProduct_30 ?_
    refine x_istore C (lv' := [(12, _), (10, _), (9, _), (7, _), (6, _), (0, _), (1, _), (2, _), (3, _), (4, _), (5, _)]) dX4_addProduct_31 (by decide) rfl ?_
    rw [show (t : Int) + (i : Int) = ((t + i : Nat) : Int) by omega]
    refine lp_addProductI C hg σ1 t a n0 b m0 ht ha hb hda hdb i (by omega) _ hl1 ?_ (m0 + 1) 0 (by omega) (by omega) 0 (by omega) σ1 hL (fun _ _ => rfl) (fun _ _ => rfl) (by simp [nv])
    intro σ' cy lv h1 h2 h3 h4 h5 h6 k0 k9 k5 k10 kp
    refine x_aload_n C dX4_addProduct_101 rfl k0 ?_
    refine x_get C (Cn := RX4) (T := TX4) (N := 6) (ci := 4) 0 dX4_addProduct_102 m_w_4 m_f_RX4_9 rfl (by decide) rfl rfl ?_
    refine x_iload C dX4_addProduct_105 k9 ?_
    refine x_iload C dX4_addProduct_107 k5 ?_
    refine x_iadd C dX4_addProduct_109 ?_
    refine x_lload C dX4_addProduct_110 k10 ?_
    refine x_l2i C dX4_addProduct_112 ?_
    refine k_ast C dX4_addProduct_113 (fun _ => rfl) (by omega) (by omega) ?_
    refine X.sub [4, 5, 6, 7, 8, 9, 10] kp ?_
    refine x_iinc C (lv' := [(6, _), (0, _), (1, _), (2, _), (3, _), (4, _), (5, _)]) dX4_addProduct_114 rfl (by decide) rfl ?_
    refine x_goto (tgt := 3) C dX4_addProduct_117 (by decide) ?_
    rw [show (i : Int) + 1 = ((i + 1 : Nat) : Int) by omega, show (((t + i : Nat) : Int) + (m0 : Int)).toNat = t + i + m0 by omega]
    have eb : nv (σ1 2) b m0 = nv (σ 2) b m0 := nv_ext (fun q hq => hfr _ (by omega))
    rw [eb, hfr (a + i) (by omega)] at h6
    refine ih (i + 1) (by omega) (by omega) _ (h1.up ⟨h4, h5⟩) ?_ ?_ ?_
    · intro q hq; rw [up_n hq, h2 q hq]; exact hrow q hq
    · intro q hq; rw [up_s, zup_n (by omega), h3 q (by omega)]; exact hfr q hq
    · rw [up_s]; exact ap_round heq h6 (fun q hq => h3 q (by omega))
set_option maxHeartbeats 4000000 in
set_option maxRecDepth 100000 in
theorem c_addProduct {l : Launch} {D : va_G} {ad : Nat → Nat} {g : Nat × Nat × Nat × Nat} (hg : 3 ≤ g.1 ∧ g.1 ≤ 11 ∧ 8 ≤ g.2.1 ∧ g.2.1 ≤ 2048 ∧ 1 ≤ g.2.2.1 ∧ g.2.2.1 ≤ 24 ∧ 1 ≤ g.2.2.2 ∧ g.2.2.2 ≤ 12) (σ : St) (hL : LM g σ) (t a n0 b m0 : Nat) (ht : t + n0 + m0 ≤ g.2.1) (ha : a + n0 ≤ g.2.1) (hb : b + m0 ≤ g.2.1) (hda : a + n0 ≤ t ∨ t + n0 + m0 ≤ a) (hdb : b + m0 ≤ t ∨ t + n0 + m0 ≤ b) (hz : ∀ q, t ≤ q → q < t + m0 → σ 2 q = 0) : Kt l D ad g yX4_addProduct (Cond.code yX4_addProduct cX4_addProduct 15 none :: tb) 0 0 [.ref (ad 5), vi (t : Int), vi (a : Int), vi (n0 : Int), vi (b : Int), vi (m0 : Int)] σ (fun v σ' => v = none ∧ LM g σ' ∧ (∀ q, q ≠ 2 → σ' q = σ q) ∧ (∀ q, ¬ (t ≤ q ∧ q < t + n0 + m0) → σ' 2 q = σ 2 q) ∧ nv (σ' 2) t (n0 + m0) = nv (σ 2) a n0 * nv (σ 2) b m0) := by
  refine ct_of (by decide) rfl (Nat.le_of_ble_eq_true rfl) ?_
  intro p e s m below meth c C
  change X _ _ _ _ _ _ _ _ _ _ _ _ _ _ _ _ [(0, .ref (ad 5)), (1, vi (t : Int)), (2, vi (a : Int)), (3, vi (n0 : Int)), (4, vi (b : Int)), (5, vi (m0 : Int))] _
  refine x_iconst C dX4_addProduct_0 ?_
  refine x_istore C (lv' := [(6, _), (0, _), (1, _), (2, _), (3, _), (4, _), (5, _)]) dX4_addProduct_1 (by decide) rfl ?_
  refine lp_addProduct C hg σ t a n0 b m0 ht ha hb hda hdb ?_ (n0 + 1) 0 (by omega) (by omega) σ hL (fun _ _ => rfl) (fun _ _ => rfl) (by rw [nv_0, Int.zero_mul, Nat.zero_add]; exact nv_zero (fun q hq => hz _ (by omega) (by omega)))
  intro σ' lv h1 h2 h3 h4
  exact x_vret C dX4_addProduct_120 ⟨_, rfl, rfl, h1, h2, h3, h4⟩
