/-! THE REFERENCE'S MEMORY -/
def RS (g : Nat × Nat × Nat × Nat) (ρ : St) : Prop := ρ 0 0 = g.1 ∧ ρ 0 1 = g.2.2.2 ∧ ρ 0 2 = g.2.2.1
def isg (f : Nat → Int) : Nat → Int := fun j => if 0 ≤ f j then 1 else 0
theorem upr_of {ρ ρ' : St} {n : Nat} {F : Nat → Int} (h1 : ρ' n = F) (h2 : ∀ q, q ≠ n → ρ' q = ρ q) : ρ' = upr ρ n F := by
  funext q
  by_cases c : q = n
  · rw [c, upr_s, h1]
  · rw [upr_n c, h2 q c]
def BST (f : Nat → Int) (k : Int) (a : Nat) (r : Int) : Prop := (r = -1 ∧ ∀ b, b < a → ¬ k ≤ f b) ∨ (∃ x : Nat, r = x ∧ x < a ∧ k ≤ f x ∧ (∀ b, b < a → k ≤ f b → f x ≤ f b) ∧ ∀ b, b < x → k ≤ f b → f x < f b)
theorem BST.keep {f : Nat → Int} {k : Int} {a : Nat} {r : Int} (h : BST f k a r) (hk : ¬ k ≤ f a ∨ (0 ≤ r ∧ f r.toNat ≤ f a)) : BST f k (a + 1) r := by
  rcases h with ⟨h1, h2⟩ | ⟨x, rfl, h1, h2, h3, h4⟩
  · refine Or.inl ⟨h1, fun b hb => ?_⟩
    by_cases c : b = a
    · subst c; omega
    · exact h2 b (by omega)
  · rw [Int.toNat_natCast] at hk
    refine Or.inr ⟨x, rfl, by omega, h2, fun b hb hkb => ?_, h4⟩
    by_cases c : b = a
    · subst c; omega
    · exact h3 b (by omega) hkb
theorem BST.new {f : Nat → Int} {k : Int} {a : Nat} {r : Int} (h : BST f k a r) (hk : k ≤ f a) (hr : 0 ≤ r → f a < f r.toNat) : BST f k (a + 1) (a : Int) := by
  refine Or.inr ⟨a, rfl, by omega, hk, fun b hb hkb => ?_, fun b hb hkb => ?_⟩
  · by_cases c : b = a
    · rw [c]; omega
    · rcases h with ⟨h1, h2⟩ | ⟨x, rfl, h1, h2, h3, h4⟩
      · exact absurd hkb (h2 b (by omega))
      · have := h3 b (by omega) hkb
        rw [Int.toNat_natCast] at hr
        have := hr (by omega)
        omega
  · rcases h with ⟨h1, h2⟩ | ⟨x, rfl, h1, h2, h3, h4⟩
    · exact absurd hkb (h2 b (by omega))
    · have := h3 b (by omega) hkb
      rw [Int.toNat_natCast] at hr
      have := hr (by omega)
      omega
/-- the reference gives a block of order k -/
def rgP (g : Nat × Nat × Nat × Nat) (ρ ρ' : St) (k : Nat) (r : Int) : Prop := (r = -1 ∧ ρ = ρ' ∧ ∀ a, a < g.2.1 → ¬ (k : Int) ≤ ρ 5 a) ∨ (∃ a d : Nat, r = a ∧ a < g.2.1 ∧ ρ 5 a = ((k + d : Nat) : Int) ∧ (∀ b, b < g.2.1 → (k : Int) ≤ ρ 5 b → ((k + d : Nat) : Int) ≤ ρ 5 b) ∧ (∀ b, b < a → ρ 5 b ≠ ((k + d : Nat) : Int)) ∧ ρ' = upr ρ 5 (splF (zup (ρ 5) a (-1)) a k d))
set_option maxHeartbeats 4000000 in
set_option maxRecDepth 100000 in
theorem r_pool {l : Launch} {D : va_G} {ad : Nat → Nat} {g : Nat × Nat × Nat × Nat} (hg : 3 ≤ g.1 ∧ g.1 ≤ 11 ∧ 8 ≤ g.2.1 ∧ g.2.1 ≤ 2048 ∧ 1 ≤ g.2.2.1 ∧ g.2.2.1 ≤ 24 ∧ 1 ≤ g.2.2.2 ∧ g.2.2.2 ≤ 12) (hnp : g.2.1 = 2 ^ g.1) (ρ : St) (hs : RS g ρ) : Rt l D ad yX6_pool (Cond.code yX6_pool cX6_pool 1 (some .int) :: tb) 0 0 [.ref (ad 0)] ρ (fun v ρ' => ρ = ρ' ∧ v = some (vi (g.2.1 : Int))) := by
  refine ct_of (by decide) rfl (Nat.le_of_ble_eq_true rfl) ?_
  intro p e s m below meth c C
  change X _ _ _ _ _ _ _ _ _ _ _ _ _ _ _ _ [(0, .ref (ad 0))] _
  refine x_iconst C dX6_pool_0 ?_
  refine x_aload_n C dX6_pool_1 rfl rfl ?_
  refine x_get C (Cn := RX6) (T := TX6) (N := 33) (ci := 6) 0 dX6_pool_2 m_w_6 m_f_RX6_85 rfl (by decide) rfl rfl ?_
  rw [hs.1]
  refine x_ishl C dX6_pool_5 (by omega) ?_
  exact x_iret C dX6_pool_6 ⟨_, rfl, rfl, by rw [pw_c, hnp]⟩
set_option maxHeartbeats 4000000 in
set_option maxRecDepth 100000 in
theorem rp_orderFor {p : Program} {l : Launch} {e : Env} {R : Room} {s : State} {m : MethodId} {args : Array Value} {below : List Frame} {meth : Method} {c : Code} {D : va_G} {ad : Nat → Nat} {Q : State → Prop} (C : Fx p s m args meth c D ad cX6_orderFor 2 (some .int) yX6_orderFor.cls tb) (ρ : St) (z : Int) (hz : 0 ≤ z ∧ z ≤ 65536) (K : ∀ (r : Nat), ordP z r → r ≤ 17 → X p l e R s m args below meth c D ad 2 Q (rc D ad ρ) 15 [(1, vi (r : Int)), (0, vi z)] []) (n r : Nat) (hn : 18 - r < n) (hr : r ≤ 17) (hb : ∀ k : Nat, k < r → (2 : Int) ^ k < z) : X p l e R s m args below meth c D ad 2 Q (rc D ad ρ) 2 [(1, vi (r : Int)), (0, vi z)] [] := by
  induction n generalizing r with
  | zero => omega
  | succ n ih =>
  refine x_iconst C dX6_orderFor_2 ?_
  refine x_iload_n C dX6_orderFor_3 rfl rfl ?_
  refine x_ishl C dX6_orderFor_4 (by omega) ?_
  refine x_iload_n C dX6_orderFor_5 rfl rfl ?_
  rw [Int.toNat_natCast, Int.one_mul]
  have hp : (2 : Int) ^ r ≤ 2 ^ 17 := zp_le (by omega)
  have hp0 : (0 : Int) < 2 ^ r := Int.pow_pos (by decide)
  refine x_icmp_ge (tgt := 15) C dX6_orderFor_6 (by decide) (by omega) (by omega) (fun c_6 => ?_) (fun c_6 => ?_)
  · exact K r ⟨by omega, hb⟩ hr
  · have hr17 : r + 1 ≤ 17 := by
      rcases Nat.lt_or_ge r 17 with q | q
      · omega
      · have h17 : r = 17 := by omega
        subst h17; omega
    refine x_iinc C (lv' := [(1, _), (0, _)]) dX6_orderFor_9 rfl (by decide) rfl ?_
    refine x_goto (tgt := 2) C dX6_orderFor_12 (by decide) ?_
    rw [show (r : Int) + 1 = ((r + 1 : Nat) : Int) by omega]
    exact ih (r + 1) (by omega) hr17 (fun k hk => if q : k < r then hb k q else by rw [show k = r by omega]; omega)
set_option maxHeartbeats 4000000 in
set_option maxRecDepth 100000 in
theorem r_orderFor {l : Launch} {D : va_G} {ad : Nat → Nat} (ρ : St) (z : Int) (hz : 0 ≤ z ∧ z ≤ 65536) : Rt l D ad yX6_orderFor (Cond.code yX6_orderFor cX6_orderFor 2 (some .int) :: tb) 0 0 [vi z] ρ (fun v ρ' => ρ = ρ' ∧ ∃ r : Nat, v = some (vi (r : Int)) ∧ ordP z r ∧ r ≤ 17) := by
  refine ct_of (by decide) rfl (Nat.le_of_ble_eq_true rfl) ?_
  intro p e s m below meth c C
  change X _ _ _ _ _ _ _ _ _ _ _ _ _ _ _ _ [(0, vi z)] _
  refine x_iconst C dX6_orderFor_0 ?_
  refine x_istore_n C (lv' := [(1, _), (0, _)]) dX6_orderFor_1 rfl (by decide) rfl ?_
  refine rp_orderFor C ρ z hz ?_ 19 0 (by omega) (by omega) (fun k hk => by omega)
  intro r h1 h2
  refine x_iload_n C dX6_orderFor_15 rfl rfl ?_
  exact x_iret C dX6_orderFor_16 ⟨_, rfl, rfl, r, rfl, h1, h2⟩
set_option maxHeartbeats 4000000 in
set_option maxRecDepth 100000 in
theorem rp_handlesInUse {p : Program} {l : Launch} {e : Env} {R : Room} {s : State} {m : MethodId} {args : Array Value} {below : List Frame} {meth : Method} {c : Code} {D : va_G} {ad : Nat → Nat} {Q : State → Prop} (C : Fx p s m args meth c D ad cX6_handlesInUse 3 (some .int) yX6_handlesInUse.cls tb) (ρ : St) (hF : ∀ h, h < 24 → ρ 6 h = 0 ∨ ρ 6 h = 1) (K : ∀ i : Int, X p l e R s m args below meth c D ad 3 Q (rc D ad ρ) 33 [(2, vi i), (1, vi (cnt (ρ 6) 1 24)), (0, .ref (ad 0))] []) (n i : Nat) (hn : 24 - i < n) (hi : i ≤ 24) : X p l e R s m args below meth c D ad 3 Q (rc D ad ρ) 4 [(2, vi (i : Int)), (1, vi (cnt (ρ 6) 1 i)), (0, .ref (ad 0))] [] := by
  induction n generalizing i with
  | zero => omega
  | succ n ih =>
  refine x_iload_n C dX6_handlesInUse_4 rfl rfl ?_
  refine x_bipush C (z := 24) dX6_handlesInUse_5 (by decide) ?_
  refine x_icmp_ge (tgt := 33) C dX6_handlesInUse_7 (by decide) (by omega) (by omega) (fun c_7 => ?_) (fun c_7 => ?_)
  · rw [show i = 24 by omega]
    exact K _
  · refine x_iload_n C dX6_handlesInUse_10 rfl rfl ?_
    refine x_aload_n C dX6_handlesInUse_11 rfl rfl ?_
    refine x_get C (Cn := RX6) (T := TX6) (N := 33) (ci := 6) 6 dX6_handlesInUse_12 m_w_6 m_f_RX6_16 rfl (by decide) rfl rfl ?_
    refine x_iload_n C dX6_handlesInUse_15 rfl rfl ?_
    refine x_zald C dX6_handlesInUse_16 rfl (by omega) (by omega) ?_
    rw [Int.toNat_natCast]
    have hf := hF i (by omega)
    refine x_if_eq (tgt := 24) C dX6_handlesInUse_17 (by decide) (by omega) (fun c_17 => ?_) (fun c_17 => ?_)
    · have hone : (if (ρ 6) i = 1 then (1 : Int) else 0) = 0 := if_neg (by omega)
      refine x_iconst C dX6_handlesInUse_24 ?_
      refine x_iadd C dX6_handlesInUse_25 ?_
      refine x_istore_n C (lv' := [(1, _), (2, _), (0, _)]) dX6_handlesInUse_26 rfl (by decide) rfl ?_
      refine x_iinc C (lv' := [(2, _), (1, _), (0, _)]) dX6_handlesInUse_27 rfl (by decide) rfl ?_
      refine x_goto (tgt := 4) C dX6_handlesInUse_30 (by decide) ?_
      rw [show (i : Int) + 1 = ((i + 1 : Nat) : Int) by omega]
      refine X.sub [0, 1, 2] (lv' := [(2, vi ((i + 1 : Nat) : Int)), (1, vi (cnt (ρ 6) 1 (i + 1))), (0, .ref (ad 0))]) (by rw [cnt_s, hone]; rfl) ?_
      exact ih (i + 1) (by omega) (by omega)
    · have hone : (if (ρ 6) i = 1 then (1 : Int) else 0) = 1 := if_pos (by omega)
      refine x_iconst C dX6_handlesInUse_20 ?_
      refine x_goto (tgt := 25) C dX6_handlesInUse_21 (by decide) ?_
      refine x_iadd C dX6_handlesInUse_25 ?_
      refine x_istore_n C (lv' := [(1, _), (2, _), (0, _)]) dX6_handlesInUse_26 rfl (by decide) rfl ?_
      refine x_iinc C (lv' := [(2, _), (1, _), (0, _)]) dX6_handlesInUse_27 rfl (by decide) rfl ?_
      refine x_goto (tgt := 4) C dX6_handlesInUse_30 (by decide) ?_
      rw [show (i : Int) + 1 = ((i + 1 : Nat) : Int) by omega]
      refine X.sub [0, 1, 2] (lv' := [(2, vi ((i + 1 : Nat) : Int)), (1, vi (cnt (ρ 6) 1 (i + 1))), (0, .ref (ad 0))]) (by rw [cnt_s, hone]; rfl) ?_
      exact ih (i + 1) (by omega) (by omega)
set_option maxHeartbeats 4000000 in
set_option maxRecDepth 100000 in
theorem r_handlesInUse {l : Launch} {D : va_G} {ad : Nat → Nat} (ρ : St) (hF : ∀ h, h < 24 → ρ 6 h = 0 ∨ ρ 6 h = 1) : Rt l D ad yX6_handlesInUse (Cond.code yX6_handlesInUse cX6_handlesInUse 3 (some .int) :: tb) 0 0 [.ref (ad 0)] ρ (fun v ρ' => ρ = ρ' ∧ v = some (vi (cnt (ρ 6) 1 24))) := by
  refine ct_of (by decide) rfl (Nat.le_of_ble_eq_true rfl) ?_
  intro p e s m below meth c C
  change X _ _ _ _ _ _ _ _ _ _ _ _ _ _ _ _ [(0, .ref (ad 0))] _
  refine x_iconst C dX6_handlesInUse_0 ?_
  refine x_istore_n C (lv' := [(1, _), (0, _)]) dX6_handlesInUse_1 rfl (by decide) rfl ?_
  refine x_iconst C dX6_handlesInUse_2 ?_
  refine x_istore_n C (lv' := [(2, _), (1, _), (0, _)]) dX6_handlesInUse_3 rfl (by decide) rfl ?_
  refine rp_handlesInUse C ρ hF ?_ 25 0 (by omega) (by omega)
  intro i
  refine x_iload_n C dX6_handlesInUse_33 rfl rfl ?_
  exact x_iret C dX6_handlesInUse_34 ⟨_, rfl, rfl, rfl⟩
set_option maxHeartbeats 4000000 in
set_option maxRecDepth 100000 in
theorem rp_jobsThere {p : Program} {l : Launch} {e : Env} {R : Room} {s : State} {m : MethodId} {args : Array Value} {below : List Frame} {meth : Method} {c : Code} {D : va_G} {ad : Nat → Nat} {Q : State → Prop} (C : Fx p s m args meth c D ad cX6_jobsThere 3 (some .int) yX6_jobsThere.cls tb) (ρ : St) (hF : ∀ h, h < 12 → -1 ≤ ρ 12 h ∧ ρ 12 h ≤ 3) (K : ∀ i : Int, X p l e R s m args below meth c D ad 3 Q (rc D ad ρ) 33 [(2, vi i), (1, vi (cnt (isg (ρ 12)) 1 12)), (0, .ref (ad 0))] []) (n i : Nat) (hn : 12 - i < n) (hi : i ≤ 12) : X p l e R s m args below meth c D ad 3 Q (rc D ad ρ) 4 [(2, vi (i : Int)), (1, vi (cnt (isg (ρ 12)) 1 i)), (0, .ref (ad 0))] [] := by
  induction n generalizing i with
  | zero => omega
  | succ n ih =>
  refine x_iload_n C dX6_jobsThere_4 rfl rfl ?_
  refine x_bipush C (z := 12) dX6_jobsThere_5 (by decide) ?_
  refine x_icmp_ge (tgt := 33) C dX6_jobsThere_7 (by decide) (by omega) (by omega) (fun c_7 => ?_) (fun c_7 => ?_)
  · rw [show i = 12 by omega]
    exact K _
  · refine x_iload_n C dX6_jobsThere_10 rfl rfl ?_
    refine x_aload_n C dX6_jobsThere_11 rfl rfl ?_
    refine x_get C (Cn := RX6) (T := TX6) (N := 33) (ci := 6) 12 dX6_jobsThere_12 m_w_6 m_f_RX6_35 rfl (by decide) rfl rfl ?_
    refine x_iload_n C dX6_jobsThere_15 rfl rfl ?_
    refine x_iald C dX6_jobsThere_16 rfl (by omega) (by omega) ?_
    rw [Int.toNat_natCast]
    have hf := hF i (by omega)
    refine x_if_lt (tgt := 24) C dX6_jobsThere_17 (by decide) (by omega) (fun c_17 => ?_) (fun c_17 => ?_)
    · have hone : (if (isg (ρ 12)) i = 1 then (1 : Int) else 0) = 0 := if_neg (by simp only [isg]; rw [if_neg (by omega)]; decide)
      refine x_iconst C dX6_jobsThere_24 ?_
      refine x_iadd C dX6_jobsThere_25 ?_
      refine x_istore_n C (lv' := [(1, _), (2, _), (0, _)]) dX6_jobsThere_26 rfl (by decide) rfl ?_
      refine x_iinc C (lv' := [(2, _), (1, _), (0, _)]) dX6_jobsThere_27 rfl (by decide) rfl ?_
      refine x_goto (tgt := 4) C dX6_jobsThere_30 (by decide) ?_
      rw [show (i : Int) + 1 = ((i + 1 : Nat) : Int) by omega]
      refine X.sub [0, 1, 2] (lv' := [(2, vi ((i + 1 : Nat) : Int)), (1, vi (cnt (isg (ρ 12)) 1 (i + 1))), (0, .ref (ad 0))]) (by rw [cnt_s, hone]; rfl) ?_
      exact ih (i + 1) (by omega) (by omega)
    · have hone : (if (isg (ρ 12)) i = 1 then (1 : Int) else 0) = 1 := if_pos (by simp only [isg]; rw [if_pos (by omega)])
      refine x_iconst C dX6_jobsThere_20 ?_
      refine x_goto (tgt := 25) C dX6_jobsThere_21 (by decide) ?_
      refine x_iadd C dX6_jobsThere_25 ?_
      refine x_istore_n C (lv' := [(1, _), (2, _), (0, _)]) dX6_jobsThere_26 rfl (by decide) rfl ?_
      refine x_iinc C (lv' := [(2, _), (1, _), (0, _)]) dX6_jobsThere_27 rfl (by decide) rfl ?_
      refine x_goto (tgt := 4) C dX6_jobsThere_30 (by decide) ?_
      rw [show (i : Int) + 1 = ((i + 1 : Nat) : Int) by omega]
      refine X.sub [0, 1, 2] (lv' := [(2, vi ((i + 1 : Nat) : Int)), (1, vi (cnt (isg (ρ 12)) 1 (i + 1))), (0, .ref (ad 0))]) (by rw [cnt_s, hone]; rfl) ?_
      exact ih (i + 1) (by omega) (by omega)
set_option maxHeartbeats 4000000 in
set_option maxRecDepth 100000 in
theorem r_jobsThere {l : Launch} {D : va_G} {ad : Nat → Nat} (ρ : St) (hF : ∀ h, h < 12 → -1 ≤ ρ 12 h ∧ ρ 12 h ≤ 3) : Rt l D ad yX6_jobsThere (Cond.code yX6_jobsThere cX6_jobsThere 3 (some .int) :: tb) 0 0 [.ref (ad 0)] ρ (fun v ρ' => ρ = ρ' ∧ v = some (vi (cnt (isg (ρ 12)) 1 12))) := by
  refine ct_of (by decide) rfl (Nat.le_of_ble_eq_true rfl) ?_
  intro p e s m below meth c C
  change X _ _ _ _ _ _ _ _ _ _ _ _ _ _ _ _ [(0, .ref (ad 0))] _
  refine x_iconst C dX6_jobsThere_0 ?_
  refine x_istore_n C (lv' := [(1, _), (0, _)]) dX6_jobsThere_1 rfl (by decide) rfl ?_
  refine x_iconst C dX6_jobsThere_2 ?_
  refine x_istore_n C (lv' := [(2, _), (1, _), (0, _)]) dX6_jobsThere_3 rfl (by decide) rfl ?_
  refine rp_jobsThere C ρ hF ?_ 13 0 (by omega) (by omega)
  intro i
  refine x_iload_n C dX6_jobsThere_33 rfl rfl ?_
  exact x_iret C dX6_jobsThere_34 ⟨_, rfl, rfl, rfl⟩
set_option maxHeartbeats 4000000 in
set_option maxRecDepth 100000 in
theorem rp_give1 {p : Program} {l : Launch} {e : Env} {R : Room} {s : State} {m : MethodId} {args : Array Value} {below : List Frame} {meth : Method} {c : Code} {D : va_G} {ad : Nat → Nat} {Q : State → Prop} (C : Fx p s m args meth c D ad cX6_give 4 (some .int) yX6_give.cls tb) {g : Nat × Nat × Nat × Nat} (hg : 3 ≤ g.1 ∧ g.1 ≤ 11 ∧ 8 ≤ g.2.1 ∧ g.2.1 ≤ 2048 ∧ 1 ≤ g.2.2.1 ∧ g.2.2.1 ≤ 24 ∧ 1 ≤ g.2.2.2 ∧ g.2.2.2 ≤ 12) (hnp : g.2.1 = 2 ^ g.1) (hR : 1 ≤ R.frames ∧ 40 ≤ R.locals) (ρ : St) (hs : RS g ρ) (hM : MI g.1 (ρ 5)) (k : Nat) (hk : k ≤ 64) (K : ∀ (r i : Int), BST (ρ 5) k g.2.1 r → X p l e R s m args below meth c D ad 4 Q (rc D ad ρ) 49 [(3, vi i), (2, vi r), (0, .ref (ad 0)), (1, vi (k : Int))] []) (n a : Nat) (hn : g.2.1 - a < n) (ha : a ≤ g.2.1) (r : Int) (hB : BST (ρ 5) k a r) : X p l e R s m args below meth c D ad 4 Q (rc D ad ρ) 4 [(3, vi (a : Int)), (2, vi r), (0, .ref (ad 0)), (1, vi (k : Int))] [] := by
  induction n generalizing a r with
  | zero => omega
  | succ n ih =>
  have hrr : -1 ≤ r ∧ r < (g.2.1 : Int) := by rcases hB with ⟨h1, -⟩ | ⟨x, h0, h1, -⟩ <;> omega
  refine x_iload_n C dX6_give_4 rfl rfl ?_
  refine x_aload_n C dX6_give_5 rfl rfl ?_
  refine x_callV C (ci := 6) (nn := 0) (r_pool hg hnp ρ hs) g_RX6_114 rfl (by decide +kernel) ⟨by first | decide | omega, by first | decide | omega⟩ rfl rfl rfl rfl rfl (Nat.le_of_ble_eq_true rfl) dX6_give_6 (fun v h1 hp => ?_)
  obtain ⟨ρ1, rfl, rfl, rfl⟩ := hp
  refine x_icmp_ge (tgt := 49) C dX6_give_9 (by decide) (by omega) (by omega) (fun c_9 => ?_) (fun c_9 => ?_)
  · obtain rfl : a = g.2.1 := by omega
    exact K _ _ hB
  · have hra := hM.1 a (by omega)
    refine x_aload_n C dX6_give_12 rfl rfl ?_
    refine x_get C (Cn := RX6) (T := TX6) (N := 33) (ci := 6) 5 dX6_give_13 m_w_6 m_f_RX6_13 rfl (by decide) rfl rfl ?_
    refine x_iload_n C dX6_give_16 rfl rfl ?_
    refine x_iald C dX6_give_17 rfl (by omega) (by omega) ?_
    refine x_iload_n C dX6_give_18 rfl rfl ?_
    rw [Int.toNat_natCast]
    refine x_icmp_lt (tgt := 43) C dX6_give_19 (by decide) (by omega) (by omega) (fun c_19 => ?_) (fun c_19 => ?_)
    · refine x_iinc C (lv' := [(3, _), (2, _), (0, _), (1, _)]) dX6_give_43 rfl (by decide) rfl ?_
      refine x_goto (tgt := 4) C dX6_give_46 (by decide) ?_
      have hrr : -1 ≤ r ∧ r < (g.2.1 : Int) := by rcases hB with ⟨h1, -⟩ | ⟨x, h0, h1, -⟩ <;> omega
      rw [show (a : Int) + 1 = ((a + 1 : Nat) : Int) by omega]
      first | exact ih (a + 1) (by omega) (by omega) _ (hB.keep (by omega)) | exact ih (a + 1) (by omega) (by omega) _ (hB.new (by omega) (fun h => by omega))
    · refine x_iload_n C dX6_give_22 rfl rfl ?_
      refine x_if_lt (tgt := 41) C dX6_give_23 (by decide) (by omega) (fun c_23 => ?_) (fun c_23 => ?_)
      · refine x_iload_n C dX6_give_41 rfl rfl ?_
        refine x_istore_n C (lv' := [(2, _), (3, _), (0, _), (1, _)]) dX6_give_42 rfl (by decide) rfl ?_
        refine x_iinc C (lv' := [(3, _), (2, _), (0, _), (1, _)]) dX6_give_43 rfl (by decide) rfl ?_
        refine x_goto (tgt := 4) C dX6_give_46 (by decide) ?_
        have hrr : -1 ≤ r ∧ r < (g.2.1 : Int) := by rcases hB with ⟨h1, -⟩ | ⟨x, h0, h1, -⟩ <;> omega
        rw [show (a : Int) + 1 = ((a + 1 : Nat) : Int) by omega]
        first | exact ih (a + 1) (by omega) (by omega) _ (hB.keep (by omega)) | exact ih (a + 1) (by omega) (by omega) _ (hB.new (by omega) (fun h => by omega))
      · have hrx := hM.1 r.toNat (by omega)
        refine x_aload_n C dX6_give_26 rfl rfl ?_
        refine x_get C (Cn := RX6) (T := TX6) (N := 33) (ci := 6) 5 dX6_give_27 m_w_6 m_f_RX6_13 rfl (by decide) rfl rfl ?_
        refine x_iload_n C dX6_give_30 rfl rfl ?_
        refine x_iald C dX6_give_31 rfl (by omega) (by omega) ?_
        refine x_aload_n C dX6_give_32 rfl rfl ?_
        refine x_get C (Cn := RX6) (T := TX6) (N := 33) (ci := 6) 5 dX6_give_33 m_w_6 m_f_RX6_13 rfl (by decide) rfl rfl ?_
        refine x_iload_n C dX6_give_36 rfl rfl ?_
        refine x_iald C dX6_give_37 rfl (by omega) (by omega) ?_
        rw [Int.toNat_natCast]
        refine x_icmp_ge (tgt := 43) C dX6_give_38 (by decide) (by omega) (by omega) (fun c_38 => ?_) (fun c_38 => ?_)
        · refine x_iinc C (lv' := [(3, _), (2, _), (0, _), (1, _)]) dX6_give_43 rfl (by decide) rfl ?_
          refine x_goto (tgt := 4) C dX6_give_46 (by decide) ?_
          have hrr : -1 ≤ r ∧ r < (g.2.1 : Int) := by rcases hB with ⟨h1, -⟩ | ⟨x, h0, h1, -⟩ <;> omega
          rw [show (a : Int) + 1 = ((a + 1 : Nat) : Int) by omega]
          first | exact ih (a + 1) (by omega) (by omega) _ (hB.keep (by omega)) | exact ih (a + 1) (by omega) (by omega) _ (hB.new (by omega) (fun h => by omega))
        · refine x_iload_n C dX6_give_41 rfl rfl ?_
          refine x_istore_n C (lv' := [(2, _), (3, _), (0, _), (1, _)]) dX6_give_42 rfl (by decide) rfl ?_
          refine x_iinc C (lv' := [(3, _), (2, _), (0, _), (1, _)]) dX6_give_43 rfl (by decide) rfl ?_
          refine x_goto (tgt := 4) C dX6_give_46 (by decide) ?_
          have hrr : -1 ≤ r ∧ r < (g.2.1 : Int) := by rcases hB with ⟨h1, -⟩ | ⟨x, h0, h1, -⟩ <;> omega
          rw [show (a : Int) + 1 = ((a + 1 : Nat) : Int) by omega]
          first | exact ih (a + 1) (by omega) (by omega) _ (hB.keep (by omega)) | exact ih (a + 1) (by omega) (by omega) _ (hB.new (by omega) (fun h => by omega))
set_option maxHeartbeats 4000000 in
set_option maxRecDepth 100000 in
theorem rp_give2 {p : Program} {l : Launch} {e : Env} {R : Room} {s : State} {m : MethodId} {args : Array Value} {below : List Frame} {meth : Method} {c : Code} {D : va_G} {ad : Nat → Nat} {Q : State → Prop} (C : Fx p s m args meth c D ad cX6_give 4 (some .int) yX6_give.cls tb) {g : Nat × Nat × Nat × Nat} (hg : 3 ≤ g.1 ∧ g.1 ≤ 11 ∧ 8 ≤ g.2.1 ∧ g.2.1 ≤ 2048 ∧ 1 ≤ g.2.2.1 ∧ g.2.2.1 ≤ 24 ∧ 1 ≤ g.2.2.2 ∧ g.2.2.2 ≤ 12) (hnp : g.2.1 = 2 ^ g.1) (ρ : St) (a k : Nat) (F : Nat → Int) (K : ∀ (ρ' : St) (i : Int), ρ' 5 = F → (∀ q, q ≠ 5 → ρ' q = ρ q) → X p l e R s m args below meth c D ad 4 Q (rc D ad ρ') 91 [(3, vi i), (2, vi (a : Int)), (0, .ref (ad 0)), (1, vi (k : Int))] []) (n : Nat) (dd : Nat) (hdd : dd < n) (hkd : k + dd ≤ g.1) (hb : a + 2 ^ (k + dd) ≤ g.2.1) (ρ1 : St) (hF : splF (ρ1 5) a k dd = F) (hrow : ∀ q, q ≠ 5 → ρ1 q = ρ q) : X p l e R s m args below meth c D ad 4 Q (rc D ad ρ1) 69 [(3, vi ((k + dd : Nat) : Int)), (2, vi (a : Int)), (0, .ref (ad 0)), (1, vi (k : Int))] [] := by
  induction n generalizing dd ρ1 with
  | zero => omega
  | succ n ih =>
  refine x_iload_n C dX6_give_69 rfl rfl ?_
  refine x_iload_n C dX6_give_70 rfl rfl ?_
  refine x_icmp_le (tgt := 91) C dX6_give_71 (by decide) (by omega) (by omega) (fun c_71 => ?_) (fun c_71 => ?_)
  · obtain rfl : dd = 0 := by omega
    exact K ρ1 _ hF hrow
  · obtain ⟨dd, rfl⟩ : ∃ d1, dd = d1 + 1 := ⟨dd - 1, by omega⟩
    have hp := pw_lt (show k + dd < k + (dd + 1) by omega)
    have hz : ((k + (dd + 1) : Nat) : Int) + -1 = ((k + dd : Nat) : Int) := by omega
    have hp0 := Nat.two_pow_pos (k + dd)
    refine x_iinc C (lv' := [(3, _), (2, _), (0, _), (1, _)]) dX6_give_74 rfl (by decide) rfl ?_
    refine x_aload_n C dX6_give_77 rfl rfl ?_
    refine x_get C (Cn := RX6) (T := TX6) (N := 33) (ci := 6) 5 dX6_give_78 m_w_6 m_f_RX6_13 rfl (by decide) rfl rfl ?_
    refine x_iload_n C dX6_give_81 rfl rfl ?_
    refine x_iconst C dX6_give_82 ?_
    refine x_iload_n C dX6_give_83 rfl rfl ?_
    rw [hz]
    refine x_ishl C dX6_give_84 (by omega) ?_
    rw [pw_c]
    refine x_iadd C dX6_give_85 ?_
    rw [show (a : Int) + ((2 ^ (k + dd) : Nat) : Int) = ((a + 2 ^ (k + dd) : Nat) : Int) by omega]
    refine x_iload_n C dX6_give_86 rfl rfl ?_
    refine r_ast C dX6_give_87 (fun _ => rfl) (by omega) (by omega) ?_
    refine x_goto (tgt := 69) C dX6_give_88 (by decide) ?_
    refine ih dd (by omega) (by omega) (by omega) _ ?_ ?_
    · rw [up_s, Int.toNat_natCast]; exact hF
    · intro q h5; rw [up_n h5]; exact hrow q h5
set_option maxHeartbeats 4000000 in
set_option maxRecDepth 100000 in
theorem r_give {l : Launch} {D : va_G} {ad : Nat → Nat} {g : Nat × Nat × Nat × Nat} (hg : 3 ≤ g.1 ∧ g.1 ≤ 11 ∧ 8 ≤ g.2.1 ∧ g.2.1 ≤ 2048 ∧ 1 ≤ g.2.2.1 ∧ g.2.2.1 ≤ 24 ∧ 1 ≤ g.2.2.2 ∧ g.2.2.2 ≤ 12) (hnp : g.2.1 = 2 ^ g.1) (ρ : St) (hs : RS g ρ) (hM : MI g.1 (ρ 5)) (k : Nat) (hk : k ≤ 64) : Rt l D ad yX6_give (Cond.code yX6_give cX6_give 4 (some .int) :: tb) 1 40 [.ref (ad 0), vi (k : Int)] ρ (fun v ρ' => ∃ r : Int, v = some (vi r) ∧ rgP g ρ ρ' k r) := by
  refine ct_of (by decide) rfl (Nat.le_of_ble_eq_true rfl) ?_
  intro p e s m below meth c C
  change X _ _ _ _ _ _ _ _ _ _ _ _ _ _ _ _ [(0, .ref (ad 0)), (1, vi (k : Int))] _
  refine x_iconst C dX6_give_0 ?_
  refine x_istore_n C (lv' := [(2, _), (0, _), (1, _)]) dX6_give_1 rfl (by decide) rfl ?_
  refine x_iconst C dX6_give_2 ?_
  refine x_istore_n C (lv' := [(3, _), (2, _), (0, _), (1, _)]) dX6_give_3 rfl (by decide) rfl ?_
  refine rp_give1 C hg hnp ⟨by decide, by decide⟩ ρ hs hM k hk ?_ (g.2.1 + 1) 0 (by omega) (by omega) (-1) (Or.inl ⟨rfl, fun b hb => by omega⟩)
  intro r i hB
  have hrr : -1 ≤ r ∧ r < (g.2.1 : Int) := by rcases hB with ⟨h1, -⟩ | ⟨x, h0, h1, -⟩ <;> omega
  refine x_iload_n C dX6_give_49 rfl rfl ?_
  refine x_if_ge (tgt := 55) C dX6_give_50 (by decide) (by omega) (fun c_50 => ?_) (fun c_50 => ?_)
  · rcases hB with ⟨h1, -⟩ | ⟨a, rfl, ha, hka, hB1, hB2⟩
    · omega
    have hra := hM.1 a (by omega)
    obtain ⟨d, hd⟩ : ∃ d : Nat, ρ 5 a = ((k + d : Nat) : Int) := ⟨(ρ 5 a - k).toNat, by omega⟩
    have hMa := hM.2.1 a (k + d) (by omega) hd
    refine x_aload_n C dX6_give_55 rfl rfl ?_
    refine x_get C (Cn := RX6) (T := TX6) (N := 33) (ci := 6) 5 dX6_give_56 m_w_6 m_f_RX6_13 rfl (by decide) rfl rfl ?_
    refine x_iload_n C dX6_give_59 rfl rfl ?_
    refine x_iald C dX6_give_60 rfl (by omega) (by omega) ?_
    rw [Int.toNat_natCast, hd]
    refine x_istore_n C (lv' := [(3, _), (2, _), (0, _), (1, _)]) dX6_give_61 rfl (by decide) rfl ?_
    refine x_aload_n C dX6_give_62 rfl rfl ?_
    refine x_get C (Cn := RX6) (T := TX6) (N := 33) (ci := 6) 5 dX6_give_63 m_w_6 m_f_RX6_13 rfl (by decide) rfl rfl ?_
    refine x_iload_n C dX6_give_66 rfl rfl ?_
    refine x_iconst C dX6_give_67 ?_
    refine r_ast C dX6_give_68 (fun _ => rfl) (by omega) (by omega) ?_
    refine rp_give2 C hg hnp ρ a k (splF (zup (ρ 5) a (-1)) a k d) ?_ (d + 1) d (by omega) (by omega) (by omega) _ (by rw [up_s, Int.toNat_natCast]) (fun q h5 => up_n h5)
    intro ρ' i e1 e2
    refine x_iload_n C dX6_give_91 rfl rfl ?_
    exact x_iret C dX6_give_92 ⟨_, rfl, _, rfl, Or.inr ⟨a, d, rfl, ha, hd, fun b hb hkb => by rw [← hd]; exact hB1 b hb hkb, fun b hb e => by have := hB2 b hb (by omega); omega, upr_of e1 e2⟩⟩
  · refine x_iconst C dX6_give_53 ?_
    exact x_iret C dX6_give_54 ⟨_, rfl, _, rfl, Or.inl ⟨rfl, rfl, by
      rcases hB with ⟨-, h2⟩ | ⟨x, h0, -⟩
      · exact h2
      · omega⟩⟩
set_option maxHeartbeats 4000000 in
set_option maxRecDepth 100000 in
set_option maxHeartbeats 4000000 in
set_option maxRecDepth 100000 in
theorem rp_free {p : Program} {l : Launch} {e : Env} {R : Room} {s : State} {m : MethodId} {args : Array Value} {below : List Frame} {meth : Method} {c : Code} {D : va_G} {ad : Nat → Nat} {Q : State → Prop} (C : Fx p s m args meth c D ad cX6_free 7 none yX6_free.cls tb) {g : Nat × Nat × Nat × Nat} (hg : 3 ≤ g.1 ∧ g.1 ≤ 11 ∧ 8 ≤ g.2.1 ∧ g.2.1 ≤ 2048 ∧ 1 ≤ g.2.2.1 ∧ g.2.2.1 ≤ 24 ∧ 1 ≤ g.2.2.2 ∧ g.2.2.2 ≤ 12) (hnp : g.2.1 = 2 ^ g.1) (ρ : St) (hs : ρ 0 0 = g.1) (F : Nat → Int) (K : ∀ (ρ' : St) lv, ρ' = upr ρ 5 F → X p l e R s m args below meth c D ad 7 Q (rc D ad ρ') 89 lv []) (a0 o0 : Int) (n : Nat) (a o : Nat) (hn : g.1 - o < n) (ho : o ≤ g.1) (hd : 2 ^ o ∣ a) (ha : a + 2 ^ o ≤ 2 ^ g.1) (ρ1 : St) (hM : MI g.1 (ρ1 5)) (hno : ∀ b, a ≤ b → b < a + 2 ^ o → ρ1 5 b = -1) (hF : jnF g.1 n (ρ1 5) a o = F) (hrow : ∀ q, q ≠ 5 → ρ1 q = ρ q) : X p l e R s m args below meth c D ad 7 Q (rc D ad ρ1) 8 [(5, vi 1), (4, vi (o : Int)), (3, vi (a : Int)), (0, .ref (ad 0)), (1, vi a0), (2, vi o0)] [] := by
  induction n generalizing a o ρ1 with
  | zero => omega
  | succ n ih =>
  refine x_iload C dX6_free_8 rfl ?_
  refine x_if_eq (tgt := 81) C dX6_free_10 (by decide) (by omega) (fun c_10 => ?_) (fun c_10 => ?_)
  · omega
  · have hp0 := Nat.two_pow_pos o
    have hs1 : ρ1 0 0 = g.1 := by rw [hrow 0 (by decide), hs]
    refine x_iload C dX6_free_13 rfl ?_
    refine x_aload_n C dX6_free_15 rfl rfl ?_
    refine x_get C (Cn := RX6) (T := TX6) (N := 33) (ci := 6) 0 dX6_free_16 m_w_6 m_f_RX6_85 rfl (by decide) rfl rfl ?_
    rw [hs1]
    refine x_icmp_ge (tgt := 81) C dX6_free_19 (by decide) (by omega) (by omega) (fun c_19 => ?_) (fun c_19 => ?_)
    · have hop : ¬ (o < g.1 ∧ ρ1 5 (a ^^^ 2 ^ o) = (o : Int)) := fun q => by omega
      refine x_aload_n C dX6_free_81 rfl rfl ?_
      refine x_get C (Cn := RX6) (T := TX6) (N := 33) (ci := 6) 5 dX6_free_82 m_w_6 m_f_RX6_13 rfl (by decide) rfl rfl ?_
      refine x_iload_n C dX6_free_85 rfl rfl ?_
      refine x_iload C dX6_free_86 rfl ?_
      refine r_ast C dX6_free_88 (fun _ => rfl) (by omega) (by omega) ?_
      refine K _ _ (upr_of ?_ (fun q h5 => by rw [up_n h5]; exact hrow q h5))
      rw [up_s, Int.toNat_natCast, ← hF]
      exact (if_neg hop).symm
    · have hop : o < g.1 := by omega
      have hbl := bud_lt hop (show a < 2 ^ g.1 by omega)
      have hrb := hM.1 _ hbl
      refine x_iload_n C dX6_free_22 rfl rfl ?_
      refine x_iconst C dX6_free_23 ?_
      refine x_iload C dX6_free_24 rfl ?_
      refine x_ishl C dX6_free_26 (by omega) ?_
      refine x_ixor C (z := ((a ^^^ 2 ^ o : Nat) : Int)) dX6_free_27 (by rw [pw_c, iI_xor]) ?_
      refine x_istore C (lv' := [(6, _), (5, _), (4, _), (3, _), (0, _), (1, _), (2, _)]) dX6_free_28 (by decide) rfl ?_
      refine x_aload_n C dX6_free_30 rfl rfl ?_
      refine x_get C (Cn := RX6) (T := TX6) (N := 33) (ci := 6) 5 dX6_free_31 m_w_6 m_f_RX6_13 rfl (by decide) rfl rfl ?_
      refine x_iload C dX6_free_34 rfl ?_
      refine x_iald C dX6_free_36 rfl (by omega) (by omega) ?_
      refine x_iload C dX6_free_37 rfl ?_
      rw [Int.toNat_natCast]
      refine x_icmp_ne (tgt := 46) C dX6_free_39 (by decide) (by omega) (by omega) (fun c_39 => ?_) (fun c_39 => ?_)
      · have hop : ¬ (o < g.1 ∧ ρ1 5 (a ^^^ 2 ^ o) = (o : Int)) := fun q => c_39 q.2
        refine x_iconst C dX6_free_46 ?_
        refine x_istore C (lv' := [(5, _), (6, _), (4, _), (3, _), (0, _), (1, _), (2, _)]) dX6_free_47 (by decide) rfl ?_
        refine x_iload C dX6_free_49 rfl ?_
        refine x_if_eq (tgt := 78) C dX6_free_51 (by decide) (by omega) (fun _ => ?_) (fun q => absurd rfl q)
        refine x_goto (tgt := 8) C dX6_free_78 (by decide) ?_
        refine x_iload C dX6_free_8 rfl ?_
        refine x_if_eq (tgt := 81) C dX6_free_10 (by decide) (by omega) (fun _ => ?_) (fun q => absurd rfl q)
        refine x_aload_n C dX6_free_81 rfl rfl ?_
        refine x_get C (Cn := RX6) (T := TX6) (N := 33) (ci := 6) 5 dX6_free_82 m_w_6 m_f_RX6_13 rfl (by decide) rfl rfl ?_
        refine x_iload_n C dX6_free_85 rfl rfl ?_
        refine x_iload C dX6_free_86 rfl ?_
        refine r_ast C dX6_free_88 (fun _ => rfl) (by omega) (by omega) ?_
        refine K _ _ (upr_of ?_ (fun q h5 => by rw [up_n h5]; exact hrow q h5))
        rw [up_s, Int.toNat_natCast, ← hF]
        exact (if_neg hop).symm
      · refine x_iconst C dX6_free_42 ?_
        refine x_goto (tgt := 47) C dX6_free_43 (by decide) ?_
        refine x_istore C (lv' := [(5, _), (6, _), (4, _), (3, _), (0, _), (1, _), (2, _)]) dX6_free_47 (by decide) rfl ?_
        refine x_iload C dX6_free_49 rfl ?_
        refine x_if_eq (tgt := 78) C dX6_free_51 (by decide) (by omega) (fun c_51 => ?_) (fun c_51 => ?_)
        · omega
        · refine x_aload_n C dX6_free_54 rfl rfl ?_
          refine x_get C (Cn := RX6) (T := TX6) (N := 33) (ci := 6) 5 dX6_free_55 m_w_6 m_f_RX6_13 rfl (by decide) rfl rfl ?_
          refine x_iload C dX6_free_58 rfl ?_
          refine x_iconst C dX6_free_60 ?_
          refine r_ast C dX6_free_61 (fun _ => rfl) (by omega) (by omega) ?_
          refine x_iload_n C dX6_free_62 rfl rfl ?_
          refine x_iload C dX6_free_63 rfl ?_
          refine x_icmp_ge (tgt := 72) C dX6_free_65 (by decide) (by omega) (by omega) (fun c_65 => ?_) (fun c_65 => ?_)
          · have hsel : (if a < a ^^^ 2 ^ o then a else a ^^^ 2 ^ o) = a ^^^ 2 ^ o := if_neg (by omega)
            refine x_iload C dX6_free_72 rfl ?_
            refine x_istore_n C (lv' := [(3, _), (5, _), (6, _), (4, _), (0, _), (1, _), (2, _)]) dX6_free_74 rfl (by decide) rfl ?_
            refine x_iinc C (lv' := [(4, _), (3, _), (5, _), (6, _), (0, _), (1, _), (2, _)]) dX6_free_75 rfl (by decide) rfl ?_
            refine x_goto (tgt := 8) C dX6_free_78 (by decide) ?_
            refine X.sub [2, 0, 1, 4, 5, 6] rfl ?_
            rw [show (o : Int) + 1 = ((o + 1 : Nat) : Int) by omega]
            have hjb := jn_blk (by omega) hM hop hd ha c_39 hno
            rw [hsel] at hjb
            refine ih _ (o + 1) (by omega) (by omega) hjb.1 hjb.2.1 _ ?_ ?_ ?_ ?_
            · rw [up_s, Int.toNat_natCast]; exact hM.rem
            · rw [up_s, Int.toNat_natCast]; exact hjb.2.2
            · rw [up_s, Int.toNat_natCast]; rw [jnF_s ⟨hop, c_39⟩, hsel] at hF; exact hF
            · intro q h5; rw [up_n h5]; exact hrow q h5
          · have hsel : (if a < a ^^^ 2 ^ o then a else a ^^^ 2 ^ o) = a := if_pos (by omega)
            refine x_iload_n C dX6_free_68 rfl rfl ?_
            refine x_goto (tgt := 74) C dX6_free_69 (by decide) ?_
            refine x_istore_n C (lv' := [(3, _), (5, _), (6, _), (4, _), (0, _), (1, _), (2, _)]) dX6_free_74 rfl (by decide) rfl ?_
            refine x_iinc C (lv' := [(4, _), (3, _), (5, _), (6, _), (0, _), (1, _), (2, _)]) dX6_free_75 rfl (by decide) rfl ?_
            refine x_goto (tgt := 8) C dX6_free_78 (by decide) ?_
            refine X.sub [2, 0, 1, 4, 5, 6] rfl ?_
            rw [show (o : Int) + 1 = ((o + 1 : Nat) : Int) by omega]
            have hjb := jn_blk (by omega) hM hop hd ha c_39 hno
            rw [hsel] at hjb
            refine ih _ (o + 1) (by omega) (by omega) hjb.1 hjb.2.1 _ ?_ ?_ ?_ ?_
            · rw [up_s, Int.toNat_natCast]; exact hM.rem
            · rw [up_s, Int.toNat_natCast]; exact hjb.2.2
            · rw [up_s, Int.toNat_natCast]; rw [jnF_s ⟨hop, c_39⟩, hsel] at hF; exact hF
            · intro q h5; rw [up_n h5]; exact hrow q h5
set_option maxHeartbeats 4000000 in
set_option maxRecDepth 100000 in
theorem r_free {l : Launch} {D : va_G} {ad : Nat → Nat} {g : Nat × Nat × Nat × Nat} (hg : 3 ≤ g.1 ∧ g.1 ≤ 11 ∧ 8 ≤ g.2.1 ∧ g.2.1 ≤ 2048 ∧ 1 ≤ g.2.2.1 ∧ g.2.2.1 ≤ 24 ∧ 1 ≤ g.2.2.2 ∧ g.2.2.2 ≤ 12) (hnp : g.2.1 = 2 ^ g.1) (ρ : St) (hs : ρ 0 0 = g.1) (hM : MI g.1 (ρ 5)) (a o : Nat) (ho : o ≤ g.1) (hd : 2 ^ o ∣ a) (ha : a + 2 ^ o ≤ 2 ^ g.1) (hno : ∀ b, a ≤ b → b < a + 2 ^ o → ρ 5 b = -1) : Rt l D ad yX6_free (Cond.code yX6_free cX6_free 7 none :: tb) 0 0 [.ref (ad 0), vi (a : Int), vi (o : Int)] ρ (fun v ρ' => v = none ∧ ρ' = upr ρ 5 (jnF g.1 12 (ρ 5) a o)) := by
  refine ct_of (by decide) rfl (Nat.le_of_ble_eq_true rfl) ?_
  intro p e s m below meth c C
  change X _ _ _ _ _ _ _ _ _ _ _ _ _ _ _ _ [(0, .ref (ad 0)), (1, vi (a : Int)), (2, vi (o : Int))] _
  refine x_iload_n C dX6_free_0 rfl rfl ?_
  refine x_istore_n C (lv' := [(3, _), (0, _), (1, _), (2, _)]) dX6_free_1 rfl (by decide) rfl ?_
  refine x_iload_n C dX6_free_2 rfl rfl ?_
  refine x_istore C (lv' := [(4, _), (3, _), (0, _), (1, _), (2, _)]) dX6_free_3 (by decide) rfl ?_
  refine x_iconst C dX6_free_5 ?_
  refine x_istore C (lv' := [(5, _), (4, _), (3, _), (0, _), (1, _), (2, _)]) dX6_free_6 (by decide) rfl ?_
  refine rp_free C hg hnp ρ hs _ ?_ _ _ 12 a o (by omega) ho hd ha ρ hM hno rfl (fun q h5 => rfl)
  intro ρ' lv e1
  exact x_vret C dX6_free_89 ⟨_, rfl, rfl, e1⟩
set_option maxHeartbeats 4000000 in
set_option maxRecDepth 100000 in
theorem rp_freeHandle {p : Program} {l : Launch} {e : Env} {R : Room} {s : State} {m : MethodId} {args : Array Value} {below : List Frame} {meth : Method} {c : Code} {D : va_G} {ad : Nat → Nat} {Q : State → Prop} (C : Fx p s m args meth c D ad cX6_freeHandle 2 (some .int) yX6_freeHandle.cls tb) {g : Nat × Nat × Nat × Nat} (hg : 3 ≤ g.1 ∧ g.1 ≤ 11 ∧ 8 ≤ g.2.1 ∧ g.2.1 ≤ 2048 ∧ 1 ≤ g.2.2.1 ∧ g.2.2.1 ≤ 24 ∧ 1 ≤ g.2.2.2 ∧ g.2.2.2 ≤ 12) (ρ : St) (hs : RS g ρ) (hF : ∀ h, h < 24 → ρ 6 h = 0 ∨ ρ 6 h = 1) (K : ∀ (r : Int) pc lv, (pc = 20 ∨ pc = 28) → lst (fun k => ρ 6 k = 0) g.2.2.1 r → X p l e R s m args below meth c D ad 2 Q (rc D ad ρ) pc lv [vi r]) (n i : Nat) (hn : g.2.2.1 - i < n) (hi : i ≤ g.2.2.1) (hb : ∀ k, k < i → ¬ ρ 6 k = 0) : X p l e R s m args below meth c D ad 2 Q (rc D ad ρ) 2 [(1, vi (i : Int)), (0, .ref (ad 0))] [] := by
  induction n generalizing i with
  | zero => omega
  | succ n ih =>
  refine x_iload_n C dX6_freeHandle_2 rfl rfl ?_
  refine x_aload_n C dX6_freeHandle_3 rfl rfl ?_
  refine x_get C (Cn := RX6) (T := TX6) (N := 33) (ci := 6) 2 dX6_freeHandle_4 m_w_6 m_f_RX6_92 rfl (by decide) rfl rfl ?_
  rw [hs.2.2]
  refine x_icmp_ge (tgt := 27) C dX6_freeHandle_7 (by decide) (by omega) (by omega) (fun c_7 => ?_) (fun c_7 => ?_)
  · refine x_iconst C dX6_freeHandle_27 ?_
    obtain rfl : i = g.2.2.1 := by omega
    exact K _ _ _ (Or.inr rfl) (Or.inl ⟨rfl, hb⟩)
  · refine x_aload_n C dX6_freeHandle_10 rfl rfl ?_
    refine x_get C (Cn := RX6) (T := TX6) (N := 33) (ci := 6) 6 dX6_freeHandle_11 m_w_6 m_f_RX6_16 rfl (by decide) rfl rfl ?_
    refine x_iload_n C dX6_freeHandle_14 rfl rfl ?_
    refine x_zald C dX6_freeHandle_15 rfl (by omega) (by omega) ?_
    rw [Int.toNat_natCast]
    have hf := hF i (by omega)
    refine x_if_ne (tgt := 21) C dX6_freeHandle_16 (by decide) (by omega) (fun c_16 => ?_) (fun c_16 => ?_)
    · refine x_iinc C (lv' := [(1, _), (0, _)]) dX6_freeHandle_21 rfl (by decide) rfl ?_
      refine x_goto (tgt := 2) C dX6_freeHandle_24 (by decide) ?_
      rw [show (i : Int) + 1 = ((i + 1 : Nat) : Int) by omega]
      exact ih (i + 1) (by omega) (by omega) (fun k hk => if q : k < i then hb k q else by rw [show k = i by omega]; omega)
    · refine x_iload_n C dX6_freeHandle_19 rfl rfl ?_
      exact K _ _ _ (Or.inl rfl) (Or.inr ⟨i, rfl, by omega, by omega, hb⟩)
set_option maxHeartbeats 4000000 in
set_option maxRecDepth 100000 in
theorem r_freeHandle {l : Launch} {D : va_G} {ad : Nat → Nat} {g : Nat × Nat × Nat × Nat} (hg : 3 ≤ g.1 ∧ g.1 ≤ 11 ∧ 8 ≤ g.2.1 ∧ g.2.1 ≤ 2048 ∧ 1 ≤ g.2.2.1 ∧ g.2.2.1 ≤ 24 ∧ 1 ≤ g.2.2.2 ∧ g.2.2.2 ≤ 12) (ρ : St) (hs : RS g ρ) (hF : ∀ h, h < 24 → ρ 6 h = 0 ∨ ρ 6 h = 1) : Rt l D ad yX6_freeHandle (Cond.code yX6_freeHandle cX6_freeHandle 2 (some .int) :: tb) 0 0 [.ref (ad 0)] ρ (fun v ρ' => ρ = ρ' ∧ ∃ r : Int, v = some (vi r) ∧ lst (fun k => ρ 6 k = 0) g.2.2.1 r) := by
  refine ct_of (by decide) rfl (Nat.le_of_ble_eq_true rfl) ?_
  intro p e s m below meth c C
  change X _ _ _ _ _ _ _ _ _ _ _ _ _ _ _ _ [(0, .ref (ad 0))] _
  refine x_iconst C dX6_freeHandle_0 ?_
  refine x_istore_n C (lv' := [(1, _), (0, _)]) dX6_freeHandle_1 rfl (by decide) rfl ?_
  refine rp_freeHandle C hg ρ hs hF ?_ (g.2.2.1 + 1) 0 (by omega) (by omega) (fun k hk => by omega)
  intro r pc lv hpc hr
  rcases hpc with rfl | rfl
  · exact x_iret C dX6_freeHandle_20 ⟨_, rfl, rfl, r, rfl, hr⟩
  · exact x_iret C dX6_freeHandle_28 ⟨_, rfl, rfl, r, rfl, hr⟩
def mkF (ρ : St) (h n a o : Nat) : St := up (up (up (up (up (up ρ 6 h 1) 11 h 0) 7 h (n : Int)) 8 h (a : Int)) 9 h (o : Int)) 10 h 0
/-- a number is made -/
def MAK (ρ : St) (h n a o : Nat) : St := upr (mkF ρ h n a o) 4 (fl (ρ 4) a (a + n) 0)
set_option maxHeartbeats 4000000 in
set_option maxRecDepth 100000 in
theorem rp_make {p : Program} {l : Launch} {e : Env} {R : Room} {s : State} {m : MethodId} {args : Array Value} {below : List Frame} {meth : Method} {c : Code} {D : va_G} {ad : Nat → Nat} {Q : State → Prop} (C : Fx p s m args meth c D ad cX6_make 5 none yX6_make.cls tb) (ρ : St) (h0 n0 a : Nat) (ha : a + n0 ≤ 2048) (K : ∀ lv, X p l e R s m args below meth c D ad 5 Q (rc D ad (upr ρ 4 (fl (ρ 4) a (a + n0) 0))) 70 lv []) (n i : Nat) (hi : i ≤ n0) (hn : n0 - i < n) : X p l e R s m args below meth c D ad 5 Q (rc D ad (upr ρ 4 (fl (ρ 4) a (a + i) 0))) 48 [(4, vi (i : Int)), (0, .ref (ad 0)), (1, vi (h0 : Int)), (2, vi (n0 : Int)), (3, vi (a : Int))] [] := by
  induction n generalizing i with
  | zero => omega
  | succ n ih =>
  refine x_iload C dX6_make_48 rfl ?_
  refine x_iload_n C dX6_make_50 rfl rfl ?_
  refine x_icmp_ge (tgt := 70) C dX6_make_51 (by decide) (by omega) (by omega) (fun c_51 => ?_) (fun c_51 => ?_)
  · obtain rfl : i = n0 := by omega
    exact K _
  · refine x_aload_n C dX6_make_54 rfl rfl ?_
    refine x_get C (Cn := RX6) (T := TX6) (N := 33) (ci := 6) 4 dX6_make_55 m_w_6 m_f_RX6_7 rfl (by decide) rfl rfl ?_
    refine x_iload_n C dX6_make_58 rfl rfl ?_
    refine x_iload C dX6_make_59 rfl ?_
    refine x_iadd C dX6_make_61 ?_
    refine x_iconst C dX6_make_62 ?_
    refine r_ast C dX6_make_63 (fun _ => rfl) (by omega) (by omega) ?_
    refine x_iinc C (lv' := [(4, _), (0, _), (1, _), (2, _), (3, _)]) dX6_make_64 rfl (by decide) rfl ?_
    refine x_goto (tgt := 48) C dX6_make_67 (by decide) ?_
    refine X.eqh (by rw [show ((a : Int) + (i : Int)).toNat = a + i by omega, fl_step _ _ _ _ _ (by omega), Nat.add_assoc]) ?_
    rw [show (i : Int) + 1 = ((i + 1 : Nat) : Int) by omega]
    exact ih (i + 1) (by omega) (by omega)
set_option maxHeartbeats 4000000 in
set_option maxRecDepth 100000 in
theorem r_make {l : Launch} {D : va_G} {ad : Nat → Nat} (ρ : St) (h n a : Nat) (hh : h < 24) (hn : n ≤ 2048) (ha : a + n ≤ 2048) : Rt l D ad yX6_make (Cond.code yX6_make cX6_make 5 none :: tb) 1 40 [.ref (ad 0), vi (h : Int), vi (n : Int), vi (a : Int)] ρ (fun v ρ' => v = none ∧ ∃ o : Nat, ordP n o ∧ ρ' = MAK ρ h n a o) := by
  refine ct_of (by decide) rfl (Nat.le_of_ble_eq_true rfl) ?_
  intro p e s m below meth c C
  change X _ _ _ _ _ _ _ _ _ _ _ _ _ _ _ _ [(0, .ref (ad 0)), (1, vi (h : Int)), (2, vi (n : Int)), (3, vi (a : Int))] _
  refine x_aload_n C dX6_make_0 rfl rfl ?_
  refine x_get C (Cn := RX6) (T := TX6) (N := 33) (ci := 6) 6 dX6_make_1 m_w_6 m_f_RX6_16 rfl (by decide) rfl rfl ?_
  refine x_iload_n C dX6_make_4 rfl rfl ?_
  refine x_iconst C dX6_make_5 ?_
  refine r_astz C dX6_make_6 (fun _ => rfl) (by omega) (by omega) (by omega) ?_
  refine x_aload_n C dX6_make_7 rfl rfl ?_
  refine x_get C (Cn := RX6) (T := TX6) (N := 33) (ci := 6) 11 dX6_make_8 m_w_6 m_f_RX6_32 rfl (by decide) rfl rfl ?_
  refine x_iload_n C dX6_make_11 rfl rfl ?_
  refine x_iconst C dX6_make_12 ?_
  refine r_astz C dX6_make_13 (fun _ => rfl) (by omega) (by omega) (by omega) ?_
  refine x_aload_n C dX6_make_14 rfl rfl ?_
  refine x_get C (Cn := RX6) (T := TX6) (N := 33) (ci := 6) 7 dX6_make_15 m_w_6 m_f_RX6_20 rfl (by decide) rfl rfl ?_
  refine x_iload_n C dX6_make_18 rfl rfl ?_
  refine x_iload_n C dX6_make_19 rfl rfl ?_
  refine r_ast C dX6_make_20 (fun _ => rfl) (by omega) (by omega) ?_
  refine x_aload_n C dX6_make_21 rfl rfl ?_
  refine x_get C (Cn := RX6) (T := TX6) (N := 33) (ci := 6) 8 dX6_make_22 m_w_6 m_f_RX6_23 rfl (by decide) rfl rfl ?_
  refine x_iload_n C dX6_make_25 rfl rfl ?_
  refine x_iload_n C dX6_make_26 rfl rfl ?_
  refine r_ast C dX6_make_27 (fun _ => rfl) (by omega) (by omega) ?_
  refine x_aload_n C dX6_make_28 rfl rfl ?_
  refine x_get C (Cn := RX6) (T := TX6) (N := 33) (ci := 6) 9 dX6_make_29 m_w_6 m_f_RX6_26 rfl (by decide) rfl rfl ?_
  refine x_iload_n C dX6_make_32 rfl rfl ?_
  refine x_iload_n C dX6_make_33 rfl rfl ?_
  refine x_callS C (nn := 1) (r_orderFor _ (n : Int) (by omega)) g_RX6_117 rfl (by decide +kernel) ⟨by first | decide | omega, by first | decide | omega⟩ rfl rfl (Nat.le_of_ble_eq_true rfl) dX6_make_34 (fun v h1 hp => ?_)
  obtain ⟨ρ1, rfl, rfl, o, rfl, ho, -⟩ := hp
  refine r_ast C dX6_make_37 (fun _ => rfl) (by omega) (by omega) ?_
  refine x_aload_n C dX6_make_38 rfl rfl ?_
  refine x_get C (Cn := RX6) (T := TX6) (N := 33) (ci := 6) 10 dX6_make_39 m_w_6 m_f_RX6_29 rfl (by decide) rfl rfl ?_
  refine x_iload_n C dX6_make_42 rfl rfl ?_
  refine x_iconst C dX6_make_43 ?_
  refine r_ast C dX6_make_44 (fun _ => rfl) (by omega) (by omega) ?_
  refine x_iconst C dX6_make_45 ?_
  refine x_istore C (lv' := [(4, _), (0, _), (1, _), (2, _), (3, _)]) dX6_make_46 (by decide) rfl ?_
  simp only [Int.toNat_natCast]
  refine X.eqh (h' := rc D ad (upr (mkF ρ h n a o) 4 (fl (mkF ρ h n a o 4) a (a + 0) 0))) (by rw [Nat.add_zero, fl_0]; rfl) ?_
  refine rp_make C (mkF ρ h n a o) h n a ha ?_ (n + 1) 0 (by omega) (by omega)
  intro lv
  exact x_vret C dX6_make_70 ⟨_, rfl, rfl, o, ho, rfl⟩
