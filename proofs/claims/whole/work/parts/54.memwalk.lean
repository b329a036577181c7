/-! THE CLASS'S MEMORY. CN: freeOf counts; ME: what it keeps -/
def CN (g : Nat × Nat × Nat × Nat) (σ : St) : Prop := ∀ k : Nat, k ≤ g.1 → σ 3 k = cnt (σ 4) k g.2.1
theorem CN.add {g : Nat × Nat × Nat × Nat} {σ : St} {a o : Nat} (h : CN g σ) (ha : a < g.2.1) (hf : σ 4 a = -1) : CN g (up (up σ 4 a (o : Int)) 3 o (σ 3 o + 1)) := by
  intro k hk
  rw [up_s, up_n (show 4 ≠ 3 by decide), up_s, cnt_up _ _ _ _ ha, hf, up_n (show 3 ≠ 4 by decide), if_neg (by omega)]
  by_cases c : k = o
  · subst c; rw [zup_s, if_pos rfl, h k hk]; omega
  · rw [zup_n c, if_neg (by omega), h k hk]; omega
theorem CN.rem {g : Nat × Nat × Nat × Nat} {σ : St} {a o : Nat} (h : CN g σ) (ha : a < g.2.1) (hf : σ 4 a = (o : Int)) : CN g (up (up σ 4 a (-1)) 3 o (σ 3 o - 1)) := by
  intro k hk
  rw [up_s, up_n (show 4 ≠ 3 by decide), up_s, cnt_up _ _ _ _ ha, hf, up_n (show 3 ≠ 4 by decide)]
  by_cases c : k = o
  · subst c; rw [zup_s, if_pos rfl, if_neg (by omega), h k hk]; omega
  · rw [zup_n c, if_neg (by omega), if_neg (by omega), h k hk]; omega
theorem CN.rg {g : Nat × Nat × Nat × Nat} {σ : St} (h : CN g σ) (hn : g.2.1 ≤ 2048) : ∀ k : Nat, k ≤ g.1 → 0 ≤ σ 3 k ∧ σ 3 k ≤ 2048 := fun k hk => by
  rw [h k hk]; exact ⟨cnt_ge _ _ _, by have := cnt_le (σ 4) k g.2.1; omega⟩
def ordP (n : Int) (r : Nat) : Prop := n ≤ 2 ^ r ∧ ∀ k : Nat, k < r → (2 : Int) ^ k < n
def sumF (f : Nat → Int) : Nat → Int
  | 0 => 0
  | k + 1 => sumF f k + f k * 2 ^ k
theorem zp_le {a b : Nat} (h : a ≤ b) : (2 : Int) ^ a ≤ 2 ^ b := by have := Nat.pow_le_pow_right (n := 2) (by decide) h; exact_mod_cast this
theorem pw_c (k : Nat) : (1 : Int) * 2 ^ ((k : Int)).toNat = ((2 ^ k : Nat) : Int) := by rw [Int.toNat_natCast, Int.one_mul]; push_cast; rfl
theorem not32 : ∀ k : Fin 11, (iI ((2 ^ k.val : Nat) : Int) ^^^ iI (-1)) = iI (-((2 ^ k.val : Nat) : Int) - 1) := by decide +kernel
def clrT (k a : Nat) : Bool := Nat.beq (Nat.land a (2 ^ 32 - 1 - 2 ^ k)) (bif Nat.blt a (a ^^^ 2 ^ k) then a else a ^^^ 2 ^ k)
def clrA (k : Nat) : Nat → Bool
  | 0 => true
  | a + 1 => clrT k a && clrA k a
def clrK : Nat → Bool
  | 0 => true
  | k + 1 => clrA k 2048 && clrK k
theorem clrA_of {k : Nat} : ∀ {n a : Nat}, clrA k n = true → a < n → clrT k a = true
  | 0, _, _, h => absurd h (Nat.not_lt_zero _)
  | n + 1, a, h, hl => by
    simp only [clrA, Bool.and_eq_true] at h
    rcases Nat.lt_succ_iff_lt_or_eq.mp hl with q | q
    · exact clrA_of h.2 q
    · rw [q]; exact h.1
theorem clrK_of : ∀ {n k : Nat}, clrK n = true → k < n → clrA k 2048 = true
  | 0, _, _, h => absurd h (Nat.not_lt_zero _)
  | n + 1, k, h, hl => by
    simp only [clrK, Bool.and_eq_true] at h
    rcases Nat.lt_succ_iff_lt_or_eq.mp hl with q | q
    · exact clrK_of h.2 q
    · rw [q]; exact h.1
set_option maxRecDepth 100000 in
theorem clrAll : clrK 11 = true := by decide +kernel
theorem iI_clr {k a : Nat} (hk : k < 11) (ha : a < 2048) : iI (a : Int) &&& iI (-((2 ^ k : Nat) : Int) - 1) = iI ((if a < a ^^^ 2 ^ k then a else a ^^^ 2 ^ k : Nat) : Int) := by
  have h := clrA_of (clrK_of clrAll hk) ha
  unfold clrT at h
  have h := Nat.eq_of_beq_eq_true h
  have e1 : (bif Nat.blt a (a ^^^ 2 ^ k) then a else a ^^^ 2 ^ k) = (if a < a ^^^ 2 ^ k then a else a ^^^ 2 ^ k) := by
    by_cases c : a < a ^^^ 2 ^ k
    · rw [if_pos c, show Nat.blt a (a ^^^ 2 ^ k) = true from Nat.ble_eq.mpr c]; rfl
    · rw [if_neg c, show Nat.blt a (a ^^^ 2 ^ k) = false from by cases hb : Nat.blt a (a ^^^ 2 ^ k); rfl; exact absurd (Nat.le_of_ble_eq_true hb) c]; rfl
  rw [e1] at h
  rw [← h]
  have hp : 2 ^ k ≤ 1024 := Nat.le_trans (Nat.pow_le_pow_right (by decide) (show k ≤ 10 by omega)) (by decide)
  apply Int32.toBitVec_inj.mp
  apply BitVec.eq_of_toNat_eq
  rw [Int32.toBitVec_and, BitVec.toNat_and]
  show (BitVec.ofInt 32 (a : Int)).toNat &&& (BitVec.ofInt 32 (-((2 ^ k : Nat) : Int) - 1)).toNat = (BitVec.ofInt 32 ((Nat.land a (2 ^ 32 - 1 - 2 ^ k) : Nat) : Int)).toNat
  have hl : Nat.land a (2 ^ 32 - 1 - 2 ^ k) ≤ a := Nat.and_le_left
  generalize 2 ^ k = P at *
  rw [BitVec.toNat_ofInt, BitVec.toNat_ofInt, BitVec.toNat_ofInt, show ((a : Int) % ((2 ^ 32 : Nat) : Int)).toNat = a by omega, show ((-(P : Int) - 1) % ((2 ^ 32 : Nat) : Int)).toNat = 2 ^ 32 - 1 - P by omega, show (((Nat.land a (2 ^ 32 - 1 - P) : Nat) : Int) % ((2 ^ 32 : Nat) : Int)).toNat = Nat.land a (2 ^ 32 - 1 - P) by omega]
  rfl
set_option maxHeartbeats 4000000 in
set_option maxRecDepth 100000 in
theorem c_addFreeN {l : Launch} {D : va_G} {ad : Nat → Nat} {g : Nat × Nat × Nat × Nat} (hg : 3 ≤ g.1 ∧ g.1 ≤ 11 ∧ 8 ≤ g.2.1 ∧ g.2.1 ≤ 2048 ∧ 1 ≤ g.2.2.1 ∧ g.2.2.1 ≤ 24 ∧ 1 ≤ g.2.2.2 ∧ g.2.2.2 ≤ 12) (σ : St) (a k : Nat) (ha : a < g.2.1) (hk : k ≤ g.1) : Kt l D ad g yX1_addFree (Cond.code yX1_addFree cX1_addFree 3 none :: tb) 0 0 [.ref (ad 1), vi (a : Int), vi (k : Int)] σ (fun v σ' => v = none ∧ σ' = up (up σ 4 a ((k : Int))) 3 k (σ 3 k + 1)) := by
  refine ct_of (by decide) rfl (Nat.le_of_ble_eq_true rfl) ?_
  intro p e s m below meth c C
  change X _ _ _ _ _ _ _ _ _ _ _ _ _ _ _ _ [(0, .ref (ad 1)), (1, vi (a : Int)), (2, vi (k : Int))] _
  refine x_aload_n C dX1_addFree_0 rfl rfl ?_
  refine x_get C (Cn := RX1) (T := TX1) (N := 4) (ci := 1) 3 dX1_addFree_1 m_w_1 m_f_RX1_22 rfl (by decide) rfl rfl ?_
  refine x_iload_n C dX1_addFree_4 rfl rfl ?_
  refine x_iload_n C dX1_addFree_5 rfl rfl ?_
  refine k_ast C dX1_addFree_6 (fun _ => rfl) (by omega) (by omega) ?_
  refine x_aload_n C dX1_addFree_7 rfl rfl ?_
  refine x_get C (Cn := RX1) (T := TX1) (N := 4) (ci := 1) 2 dX1_addFree_8 m_w_1 m_f_RX1_19 rfl (by decide) rfl rfl ?_
  refine x_iload_n C dX1_addFree_11 rfl rfl ?_
  refine x_dup2 C dX1_addFree_12 rfl rfl ?_
  refine x_iald C dX1_addFree_13 rfl (by omega) (by omega) ?_
  refine x_iconst C dX1_addFree_14 ?_
  refine x_iadd C dX1_addFree_15 ?_
  refine k_ast C dX1_addFree_16 (fun _ => rfl) (by omega) (by omega) ?_
  exact x_vret C dX1_addFree_17 ⟨_, rfl, rfl, by simp only [Int.toNat_natCast]; rfl⟩
set_option maxHeartbeats 4000000 in
set_option maxRecDepth 100000 in
theorem c_removeFreeN {l : Launch} {D : va_G} {ad : Nat → Nat} {g : Nat × Nat × Nat × Nat} (hg : 3 ≤ g.1 ∧ g.1 ≤ 11 ∧ 8 ≤ g.2.1 ∧ g.2.1 ≤ 2048 ∧ 1 ≤ g.2.2.1 ∧ g.2.2.1 ≤ 24 ∧ 1 ≤ g.2.2.2 ∧ g.2.2.2 ≤ 12) (σ : St) (a k : Nat) (ha : a < g.2.1) (hk : k ≤ g.1) : Kt l D ad g yX1_removeFree (Cond.code yX1_removeFree cX1_removeFree 3 none :: tb) 0 0 [.ref (ad 1), vi (a : Int), vi (k : Int)] σ (fun v σ' => v = none ∧ σ' = up (up σ 4 a (-1)) 3 k (σ 3 k - 1)) := by
  refine ct_of (by decide) rfl (Nat.le_of_ble_eq_true rfl) ?_
  intro p e s m below meth c C
  change X _ _ _ _ _ _ _ _ _ _ _ _ _ _ _ _ [(0, .ref (ad 1)), (1, vi (a : Int)), (2, vi (k : Int))] _
  refine x_aload_n C dX1_removeFree_0 rfl rfl ?_
  refine x_get C (Cn := RX1) (T := TX1) (N := 4) (ci := 1) 3 dX1_removeFree_1 m_w_1 m_f_RX1_22 rfl (by decide) rfl rfl ?_
  refine x_iload_n C dX1_removeFree_4 rfl rfl ?_
  refine x_iconst C dX1_removeFree_5 ?_
  refine k_ast C dX1_removeFree_6 (fun _ => rfl) (by omega) (by omega) ?_
  refine x_aload_n C dX1_removeFree_7 rfl rfl ?_
  refine x_get C (Cn := RX1) (T := TX1) (N := 4) (ci := 1) 2 dX1_removeFree_8 m_w_1 m_f_RX1_19 rfl (by decide) rfl rfl ?_
  refine x_iload_n C dX1_removeFree_11 rfl rfl ?_
  refine x_dup2 C dX1_removeFree_12 rfl rfl ?_
  refine x_iald C dX1_removeFree_13 rfl (by omega) (by omega) ?_
  refine x_iconst C dX1_removeFree_14 ?_
  refine x_isub C dX1_removeFree_15 ?_
  refine k_ast C dX1_removeFree_16 (fun _ => rfl) (by omega) (by omega) ?_
  exact x_vret C dX1_removeFree_17 ⟨_, rfl, rfl, by simp only [Int.toNat_natCast]; rfl⟩
set_option maxHeartbeats 4000000 in
set_option maxRecDepth 100000 in
theorem lp_orderFor {p : Program} {l : Launch} {e : Env} {R : Room} {s : State} {m : MethodId} {args : Array Value} {below : List Frame} {meth : Method} {c : Code} {D : va_G} {ad : Nat → Nat} {g : Nat × Nat × Nat × Nat} {Q : State → Prop} (C : Fx p s m args meth c D ad cX1_orderFor 3 (some .int) yX1_orderFor.cls tb) (σ : St) (z : Int) (hz : 0 ≤ z ∧ z ≤ 65536) (K : ∀ (r : Nat), ordP z r → r ≤ 17 → X p l e R s m args below meth c D ad 3 Q (kc D ad g σ) 22 [(2, vi (r : Int)), (0, vl z)] []) (n r : Nat) (hn : 18 - r < n) (hr : r ≤ 17) (hb : ∀ k : Nat, k < r → (2 : Int) ^ k < z) : X p l e R s m args below meth c D ad 3 Q (kc D ad g σ) 2 [(2, vi (r : Int)), (0, vl z)] [] := by
  induction n generalizing r with
  | zero => omega
  | succ n ih =>
  refine x_iload_n C dX1_orderFor_2 rfl rfl ?_
  refine x_bipush C (z := 30) dX1_orderFor_3 (by decide) ?_
  refine x_icmp_ge (tgt := 22) C dX1_orderFor_5 (by decide) (by omega) (by omega) (fun c_5 => ?_) (fun c_5 => ?_)
  · omega
  · refine x_lconst1 C dX1_orderFor_8 ?_
    refine x_iload_n C dX1_orderFor_9 rfl rfl ?_
    refine x_lshl C dX1_orderFor_10 (by omega) ?_
    refine x_lload_n C dX1_orderFor_11 rfl rfl ?_
    rw [Int.toNat_natCast, Int.one_mul]
    have hp : (2 : Int) ^ r ≤ 2 ^ 17 := zp_le (by omega)
    have hp0 : (0 : Int) < 2 ^ r := Int.pow_pos (by decide)
    refine x_lif_ge (tgt := 22) C dX1_orderFor_12 dX1_orderFor_13 (by decide) (by omega) (by omega) (fun c_12 => ?_) (fun c_12 => ?_)
    · exact K r ⟨by omega, hb⟩ hr
    · have hr17 : r + 1 ≤ 17 := by
        rcases Nat.lt_or_ge r 17 with q | q
        · omega
        · have h17 : r = 17 := by omega
          subst h17; omega
      refine x_iinc C (lv' := [(2, _), (0, _)]) dX1_orderFor_16 rfl (by decide) rfl ?_
      refine x_goto (tgt := 2) C dX1_orderFor_19 (by decide) ?_
      rw [show (r : Int) + 1 = ((r + 1 : Nat) : Int) by omega]
      exact ih (r + 1) (by have := hb; omega) hr17 (fun k hk => if q : k < r then hb k q else by rw [show k = r by omega]; omega)
set_option maxHeartbeats 4000000 in
set_option maxRecDepth 100000 in
theorem c_orderFor {l : Launch} {D : va_G} {ad : Nat → Nat} {g : Nat × Nat × Nat × Nat} (σ : St) (z : Int) (hz : 0 ≤ z ∧ z ≤ 65536) : Kt l D ad g yX1_orderFor (Cond.code yX1_orderFor cX1_orderFor 3 (some .int) :: tb) 0 0 [vl z] σ (fun v σ' => σ = σ' ∧ ∃ r : Nat, v = some (vi (r : Int)) ∧ ordP z r ∧ r ≤ 17) := by
  refine ct_of (by decide) rfl (Nat.le_of_ble_eq_true rfl) ?_
  intro p e s m below meth c C
  change X _ _ _ _ _ _ _ _ _ _ _ _ _ _ _ _ [(0, vl z)] _
  refine x_iconst C dX1_orderFor_0 ?_
  refine x_istore_n C (lv' := [(2, _), (0, _)]) dX1_orderFor_1 rfl (by decide) rfl ?_
  refine lp_orderFor C σ z hz ?_ 19 0 (by omega) (by omega) (fun k hk => by omega)
  intro r h1 h2
  refine x_iload_n C dX1_orderFor_22 rfl rfl ?_
  exact x_iret C dX1_orderFor_23 ⟨_, rfl, rfl, r, rfl, h1, h2⟩
set_option maxHeartbeats 4000000 in
set_option maxRecDepth 100000 in
theorem lp_freeLimbs {p : Program} {l : Launch} {e : Env} {R : Room} {s : State} {m : MethodId} {args : Array Value} {below : List Frame} {meth : Method} {c : Code} {D : va_G} {ad : Nat → Nat} {g : Nat × Nat × Nat × Nat} {Q : State → Prop} (C : Fx p s m args meth c D ad cX1_freeLimbs 3 (some .int) yX1_freeLimbs.cls tb) (hg : 3 ≤ g.1 ∧ g.1 ≤ 11 ∧ 8 ≤ g.2.1 ∧ g.2.1 ≤ 2048 ∧ 1 ≤ g.2.2.1 ∧ g.2.2.1 ≤ 24 ∧ 1 ≤ g.2.2.2 ∧ g.2.2.2 ≤ 12) (σ : St) (K : X p l e R s m args below meth c D ad 3 Q (kc D ad g σ) 29 [(2, vi ((g.1 + 1 : Nat) : Int)), (1, vi (sumF (σ 3) (g.1 + 1))), (0, .ref (ad 1))] []) (n r : Nat) (hn : 20 - r < n) (hr : r ≤ g.1 + 1) : X p l e R s m args below meth c D ad 3 Q (kc D ad g σ) 4 [(2, vi (r : Int)), (1, vi (sumF (σ 3) r)), (0, .ref (ad 1))] [] := by
  induction n generalizing r with
  | zero => omega
  | succ n ih =>
  refine x_iload_n C dX1_freeLimbs_4 rfl rfl ?_
  refine x_aload_n C dX1_freeLimbs_5 rfl rfl ?_
  refine x_get C (Cn := RX1) (T := TX1) (N := 4) (ci := 1) 0 dX1_freeLimbs_6 m_w_1 m_f_RX1_9 rfl (by decide) rfl rfl ?_
  refine x_icmp_gt (tgt := 29) C dX1_freeLimbs_9 (by decide) (by omega) (by omega) (fun c_9 => ?_) (fun c_9 => ?_)
  · rw [show r = g.1 + 1 by omega]
    exact K
  · refine x_iload_n C dX1_freeLimbs_12 rfl rfl ?_
    refine x_aload_n C dX1_freeLimbs_13 rfl rfl ?_
    refine x_get C (Cn := RX1) (T := TX1) (N := 4) (ci := 1) 2 dX1_freeLimbs_14 m_w_1 m_f_RX1_19 rfl (by decide) rfl rfl ?_
    refine x_iload_n C dX1_freeLimbs_17 rfl rfl ?_
    refine x_iald C dX1_freeLimbs_18 rfl (by omega) (by omega) ?_
    refine x_iload_n C dX1_freeLimbs_19 rfl rfl ?_
    refine x_ishl C dX1_freeLimbs_20 (by omega) ?_
    refine x_iadd C dX1_freeLimbs_21 ?_
    refine x_istore_n C (lv' := [(1, _), (2, _), (0, _)]) dX1_freeLimbs_22 rfl (by decide) rfl ?_
    refine x_iinc C (lv' := [(2, _), (1, _), (0, _)]) dX1_freeLimbs_23 rfl (by decide) rfl ?_
    refine x_goto (tgt := 4) C dX1_freeLimbs_26 (by decide) ?_
    rw [show (r : Int) + 1 = ((r + 1 : Nat) : Int) by omega, Int.toNat_natCast]
    exact ih (r + 1) (by omega) (by omega)
set_option maxHeartbeats 4000000 in
set_option maxRecDepth 100000 in
theorem c_freeLimbs {l : Launch} {D : va_G} {ad : Nat → Nat} {g : Nat × Nat × Nat × Nat} (hg : 3 ≤ g.1 ∧ g.1 ≤ 11 ∧ 8 ≤ g.2.1 ∧ g.2.1 ≤ 2048 ∧ 1 ≤ g.2.2.1 ∧ g.2.2.1 ≤ 24 ∧ 1 ≤ g.2.2.2 ∧ g.2.2.2 ≤ 12) (σ : St) : Kt l D ad g yX1_freeLimbs (Cond.code yX1_freeLimbs cX1_freeLimbs 3 (some .int) :: tb) 0 0 [.ref (ad 1)] σ (fun v σ' => σ = σ' ∧ v = some (vi (sumF (σ 3) (g.1 + 1)))) := by
  refine ct_of (by decide) rfl (Nat.le_of_ble_eq_true rfl) ?_
  intro p e s m below meth c C
  change X _ _ _ _ _ _ _ _ _ _ _ _ _ _ _ _ [(0, .ref (ad 1))] _
  refine x_iconst C dX1_freeLimbs_0 ?_
  refine x_istore_n C (lv' := [(1, _), (0, _)]) dX1_freeLimbs_1 rfl (by decide) rfl ?_
  refine x_iconst C dX1_freeLimbs_2 ?_
  refine x_istore_n C (lv' := [(2, _), (1, _), (0, _)]) dX1_freeLimbs_3 rfl (by decide) rfl ?_
  refine lp_freeLimbs C hg σ ?_ 21 0 (by omega) (by omega)
  refine x_iload_n C dX1_freeLimbs_29 rfl rfl ?_
  exact x_iret C dX1_freeLimbs_30 ⟨_, rfl, rfl, rfl⟩
def adP (f : Nat → Int) (np : Nat) (o k r : Int) : Prop := (r = -1 ∧ ¬ (0 ≤ k ∧ k < cnt f o np)) ∨ (∃ a : Nat, r = a ∧ a < np ∧ f a = o ∧ cnt f o a = k)
theorem MI.step {pl : Nat} {f : Nat → Int} (h : MI pl f) {o a : Nat} (hd : 2 ^ o ∣ a) (hb : a + 2 ^ o ≤ 2 ^ pl) : cnt f o (a + 2 ^ o) = cnt f o (a + 1) := by
  have hp : 0 < 2 ^ o := Nat.two_pow_pos o
  refine cnt_gap f o (by omega) (fun b h1 h2 e => ?_)
  have h3 := (h.2.1 b o (by omega) e).1
  obtain ⟨x, rfl⟩ := hd
  obtain ⟨y, rfl⟩ := h3
  have h4 : x < y := Nat.lt_of_mul_lt_mul_left (show 2 ^ o * x < 2 ^ o * y by omega)
  have h5 := Nat.mul_le_mul_left (2 ^ o) (show x + 1 ≤ y by omega)
  rw [Nat.mul_add] at h5
  omega
theorem dv_le {a n p : Nat} (h1 : p ∣ a) (h2 : p ∣ n) (h : a < n) : a + p ≤ n := by
  obtain ⟨x, rfl⟩ := h1
  obtain ⟨y, rfl⟩ := h2
  have h4 : x < y := Nat.lt_of_mul_lt_mul_left h
  have h5 := Nat.mul_le_mul_left p (show x + 1 ≤ y by omega)
  rw [Nat.mul_add] at h5
  omega
set_option maxHeartbeats 4000000 in
set_option maxRecDepth 100000 in
theorem lp_addressOfFree {p : Program} {l : Launch} {e : Env} {R : Room} {s : State} {m : MethodId} {args : Array Value} {below : List Frame} {meth : Method} {c : Code} {D : va_G} {ad : Nat → Nat} {g : Nat × Nat × Nat × Nat} {Q : State → Prop} (C : Fx p s m args meth c D ad cX1_addressOfFree 5 (some .int) yX1_addressOfFree.cls tb) (hg : 3 ≤ g.1 ∧ g.1 ≤ 11 ∧ 8 ≤ g.2.1 ∧ g.2.1 ≤ 2048 ∧ 1 ≤ g.2.2.1 ∧ g.2.2.1 ≤ 24 ∧ 1 ≤ g.2.2.2 ∧ g.2.2.2 ≤ 12) (hnp : g.2.1 = 2 ^ g.1) (σ : St) (hM : MI g.1 (σ 4)) (o : Nat) (ho : o ≤ g.1) (k : Int) (hk : 0 ≤ k ∧ k < cnt (σ 4) o g.2.1) (K : ∀ (a : Nat) lv, a < g.2.1 → σ 4 a = o → cnt (σ 4) o a = k → X p l e R s m args below meth c D ad 5 Q (kc D ad g σ) 49 lv [vi (a : Int)]) (n a : Nat) (hn : g.2.1 - a < n) (hd : 2 ^ o ∣ a) (ha : a ≤ g.2.1) (hc : cnt (σ 4) o a ≤ k) : X p l e R s m args below meth c D ad 5 Q (kc D ad g σ) 21 [(4, vi (a : Int)), (3, vi (cnt (σ 4) o a)), (0, .ref (ad 1)), (1, vi (o : Int)), (2, vi k)] [] := by
  induction n generalizing a with
  | zero => omega
  | succ n ih =>
  refine x_iload C dX1_addressOfFree_21 rfl ?_
  refine x_aload_n C dX1_addressOfFree_23 rfl rfl ?_
  refine x_get C (Cn := RX1) (T := TX1) (N := 4) (ci := 1) 3 dX1_addressOfFree_24 m_w_1 m_f_RX1_22 rfl (by decide) rfl rfl ?_
  refine x_alen C 0 dX1_addressOfFree_27 rfl rfl ?_
  refine x_icmp_ge (tgt := 64) C dX1_addressOfFree_28 (by decide) (by omega) (by omega) (fun c_28 => ?_) (fun c_28 => ?_)
  · rw [show a = g.2.1 by omega] at hc
    omega
  · have hp : 0 < 2 ^ o := Nat.two_pow_pos o
    have hra := hM.1 a (by omega)
    have hle := cnt_le (σ 4) o a
    have hge := cnt_ge (σ 4) o a
    have hle2 := cnt_le (σ 4) o g.2.1
    have hst : a + 2 ^ o ≤ g.2.1 := by
      rw [hnp]; exact dv_le hd (Nat.pow_dvd_pow 2 ho) (by omega)
    have hstep := hM.step hd (by omega)
    rw [cnt_s] at hstep
    refine x_aload_n C dX1_addressOfFree_31 rfl rfl ?_
    refine x_get C (Cn := RX1) (T := TX1) (N := 4) (ci := 1) 3 dX1_addressOfFree_32 m_w_1 m_f_RX1_22 rfl (by decide) rfl rfl ?_
    refine x_iload C dX1_addressOfFree_35 rfl ?_
    refine x_iald C dX1_addressOfFree_37 rfl (by omega) (by omega) ?_
    refine x_iload_n C dX1_addressOfFree_38 rfl rfl ?_
    try rw [Int.toNat_natCast]
    refine x_icmp_ne (tgt := 53) C dX1_addressOfFree_39 (by decide) (by omega) (by omega) (fun c_39 => ?_) (fun c_39 => ?_)
    · refine x_iload C dX1_addressOfFree_53 rfl ?_
      refine x_iconst C dX1_addressOfFree_55 ?_
      refine x_iload_n C dX1_addressOfFree_56 rfl rfl ?_
      refine x_ishl C dX1_addressOfFree_57 (by omega) ?_
      refine x_iadd C dX1_addressOfFree_58 ?_
      refine x_istore C (lv' := [(4, _), (3, _), (0, _), (1, _), (2, _)]) dX1_addressOfFree_59 (by decide) rfl ?_
      refine x_goto (tgt := 21) C dX1_addressOfFree_61 (by decide) ?_
      rw [pw_c, show (a : Int) + ((2 ^ o : Nat) : Int) = ((a + 2 ^ o : Nat) : Int) by omega]
      rw [show cnt (σ 4) o a = cnt (σ 4) o (a + 2 ^ o) by rw [hstep, if_neg c_39]; omega]
      exact ih (a + 2 ^ o) (by omega) (Nat.dvd_add hd (Nat.dvd_refl _)) hst (by rw [hstep, if_neg c_39]; omega)
    · refine x_iload_n C dX1_addressOfFree_42 rfl rfl ?_
      refine x_iload_n C dX1_addressOfFree_43 rfl rfl ?_
      refine x_icmp_ne (tgt := 50) C dX1_addressOfFree_44 (by decide) (by omega) (by omega) (fun c_44 => ?_) (fun c_44 => ?_)
      · refine x_iinc C (lv' := [(3, _), (4, _), (0, _), (1, _), (2, _)]) dX1_addressOfFree_50 rfl (by decide) rfl ?_
        refine x_iload C dX1_addressOfFree_53 rfl ?_
        refine x_iconst C dX1_addressOfFree_55 ?_
        refine x_iload_n C dX1_addressOfFree_56 rfl rfl ?_
        refine x_ishl C dX1_addressOfFree_57 (by omega) ?_
        refine x_iadd C dX1_addressOfFree_58 ?_
        refine x_istore C (lv' := [(4, _), (3, _), (0, _), (1, _), (2, _)]) dX1_addressOfFree_59 (by decide) rfl ?_
        refine x_goto (tgt := 21) C dX1_addressOfFree_61 (by decide) ?_
        rw [pw_c, show (a : Int) + ((2 ^ o : Nat) : Int) = ((a + 2 ^ o : Nat) : Int) by omega]
        rw [show cnt (σ 4) o a + 1 = cnt (σ 4) o (a + 2 ^ o) by rw [hstep, if_pos c_39]]
        exact ih (a + 2 ^ o) (by omega) (Nat.dvd_add hd (Nat.dvd_refl _)) hst (by rw [hstep, if_pos c_39]; omega)
      · refine x_iload C dX1_addressOfFree_47 rfl ?_
        exact K a _ (by omega) c_39 c_44
set_option maxHeartbeats 4000000 in
set_option maxRecDepth 100000 in
theorem c_addressOfFree {l : Launch} {D : va_G} {ad : Nat → Nat} {g : Nat × Nat × Nat × Nat} (hg : 3 ≤ g.1 ∧ g.1 ≤ 11 ∧ 8 ≤ g.2.1 ∧ g.2.1 ≤ 2048 ∧ 1 ≤ g.2.2.1 ∧ g.2.2.1 ≤ 24 ∧ 1 ≤ g.2.2.2 ∧ g.2.2.2 ≤ 12) (hnp : g.2.1 = 2 ^ g.1) (σ : St) (hM : MI g.1 (σ 4)) (hC : CN g σ) (o : Nat) (ho : o ≤ g.1) (k : Int) (hk : -2147483648 ≤ k ∧ k < 2147483648) : Kt l D ad g yX1_addressOfFree (Cond.code yX1_addressOfFree cX1_addressOfFree 5 (some .int) :: tb) 0 0 [.ref (ad 1), vi (o : Int), vi k] σ (fun v σ' => σ = σ' ∧ ∃ r : Int, v = some (vi r) ∧ adP (σ 4) g.2.1 o k r) := by
  refine ct_of (by decide) rfl (Nat.le_of_ble_eq_true rfl) ?_
  intro p e s m below meth c C
  change X _ _ _ _ _ _ _ _ _ _ _ _ _ _ _ _ [(0, .ref (ad 1)), (1, vi (o : Int)), (2, vi k)] _
  have hr := hC.rg (by omega) o ho
  have hco := hC o ho
  refine x_iload_n C dX1_addressOfFree_0 rfl rfl ?_
  refine x_if_lt (tgt := 14) C dX1_addressOfFree_1 (by decide) (by omega) (fun c_1 => ?_) (fun c_1 => ?_)
  · refine x_iconst C dX1_addressOfFree_14 ?_
    exact x_iret C dX1_addressOfFree_15 ⟨_, rfl, rfl, _, rfl, Or.inl ⟨rfl, by omega⟩⟩
  · refine x_iload_n C dX1_addressOfFree_4 rfl rfl ?_
    refine x_aload_n C dX1_addressOfFree_5 rfl rfl ?_
    refine x_get C (Cn := RX1) (T := TX1) (N := 4) (ci := 1) 2 dX1_addressOfFree_6 m_w_1 m_f_RX1_19 rfl (by decide) rfl rfl ?_
    refine x_iload_n C dX1_addressOfFree_9 rfl rfl ?_
    refine x_iald C dX1_addressOfFree_10 rfl (by omega) (by omega) ?_
    rw [Int.toNat_natCast]
    refine x_icmp_lt (tgt := 16) C dX1_addressOfFree_11 (by decide) (by omega) (by omega) (fun c_11 => ?_) (fun c_11 => ?_)
    · refine x_iconst C dX1_addressOfFree_16 ?_
      refine x_istore_n C (lv' := [(3, _), (0, _), (1, _), (2, _)]) dX1_addressOfFree_17 rfl (by decide) rfl ?_
      refine x_iconst C dX1_addressOfFree_18 ?_
      refine x_istore C (lv' := [(4, _), (3, _), (0, _), (1, _), (2, _)]) dX1_addressOfFree_19 (by decide) rfl ?_
      refine lp_addressOfFree C hg hnp σ hM o ho k (by omega) ?_ (g.2.1 + 1) 0 (by omega) (Nat.dvd_zero _) (by omega) (by simp [cnt]; omega)
      intro a lv h1 h2 h3
      exact x_iret C dX1_addressOfFree_49 ⟨_, rfl, rfl, _, rfl, Or.inr ⟨a, rfl, h1, h2, h3⟩⟩
    · refine x_iconst C dX1_addressOfFree_14 ?_
      exact x_iret C dX1_addressOfFree_15 ⟨_, rfl, rfl, _, rfl, Or.inl ⟨rfl, by omega⟩⟩
