/-! THE REFERENCE'S NUMBERS: loading, putting, times -/
def mvF (f s : Nat → Int) (i : Nat) : Nat → Int := fun k => if k < i then s k else f k
theorem mv_0 (ρ : St) (d : Nat) (s : Nat → Int) : upr ρ d (mvF (ρ d) s 0) = ρ := by
  symm
  refine upr_of ?_ (fun q hq => rfl)
  funext j; unfold mvF; rw [if_neg (by omega)]
theorem mv_step (ρ : St) (d i : Nat) (s : Nat → Int) : up (upr ρ d (mvF (ρ d) s i)) d i (s i) = upr ρ d (mvF (ρ d) s (i + 1)) := by
  refine upr_of ?_ (fun q hq => by rw [up_n hq, upr_n hq])
  rw [up_s, upr_s]
  funext j; unfold mvF
  by_cases c : j = i
  · subst c; rw [zup_s, if_pos (by omega)]
  · rw [zup_n c]
    by_cases c2 : j < i
    · rw [if_pos c2, if_pos (by omega)]
    · rw [if_neg c2, if_neg (by omega)]
def ptF (f s : Nat → Int) (A n r : Nat) : Nat → Int := fun k => if A ≤ k ∧ k < A + n then (if k - A < r then s (k - A) else 0) else f k
theorem pt_0 (ρ : St) (s : Nat → Int) (A r : Nat) : upr ρ 4 (ptF (ρ 4) s A 0 r) = ρ := by
  symm
  refine upr_of ?_ (fun q hq => rfl)
  funext j; unfold ptF; rw [if_neg (by omega)]
theorem pt_step (ρ : St) (s : Nat → Int) (A i r : Nat) : up (upr ρ 4 (ptF (ρ 4) s A i r)) 4 (A + i) (if i < r then s i else 0) = upr ρ 4 (ptF (ρ 4) s A (i + 1) r) := by
  refine upr_of ?_ (fun q hq => by rw [up_n hq, upr_n hq])
  rw [up_s, upr_s]
  funext j; unfold ptF
  by_cases c : j = A + i
  · subst c; rw [zup_s, if_pos (show A ≤ A + i ∧ A + i < A + (i + 1) by omega), show A + i - A = i by omega]
  · rw [zup_n c]
    by_cases c2 : A ≤ j ∧ j < A + i
    · rw [if_pos c2, if_pos (show A ≤ j ∧ j < A + (i + 1) by omega)]
    · rw [if_neg c2, if_neg (show ¬ (A ≤ j ∧ j < A + (i + 1)) by omega)]
theorem tm_step {f f0 x : Nat → Int} {a k : Nat} {ri cy p : Int} (heq : nv f a k + cy * 2147483648 ^ k = nv f0 a k + ri * nv x 0 k) (hp : p = ri * x k + f0 (a + k) + cy) :
    nv (zup f (a + k) (p % 2147483648)) a (k + 1) + p / 2147483648 * 2147483648 ^ (k + 1) = nv f0 a (k + 1) + ri * nv x 0 (k + 1) := by
  rw [nv_s, nv_s, nv_s, zup_s, bp_s, nv_ext (g := f) (b := a) (fun i hi => zup_n (by omega)), Nat.zero_add]
  have h1 := dmP p (2147483648 ^ k)
  have h2 : p * 2147483648 ^ k = ri * x k * 2147483648 ^ k + f0 (a + k) * 2147483648 ^ k + cy * 2147483648 ^ k := by rw [hp, Int.add_mul, Int.add_mul]
  have h3 : ri * (nv x 0 k + x k * 2147483648 ^ k) = ri * nv x 0 k + ri * x k * 2147483648 ^ k := by rw [Int.mul_add, Int.mul_assoc]
  omega
theorem tm_round {f f' R x : Nat → Int} {i m : Nat} {cy : Int} (h1 : nv f 0 (i + m) = nv R 0 i * nv x 0 m) (h2 : nv f' i m + cy * 2147483648 ^ m = nv f i m + R i * nv x 0 m) (h3 : ∀ q, q < i → f' q = f q) :
    nv (zup f' (i + m) cy) 0 (i + 1 + m) = nv R 0 (i + 1) * nv x 0 m := by
  rw [show i + 1 + m = i + (m + 1) by omega, nv_add, nv_s, Nat.zero_add, zup_s, nv_ext (g := f) (b := 0) (f := zup f' (i + m) cy) (a := 0) (n := i) (fun q hq => by rw [zup_n (by omega)]; exact h3 _ (by omega)), nv_ext (g := f') (b := i) (f := zup f' (i + m) cy) (a := i) (n := m) (fun q hq => zup_n (by omega)), h2]
  rw [nv_add, Nat.zero_add] at h1
  rw [Int.mul_add, ← Int.add_assoc, h1, nv_s, Nat.zero_add, Int.add_mul, Int.mul_comm (R i) (2147483648 ^ i), Int.mul_assoc]
/-- what holds of a number of the reference: limbs, the highest isn't 0 -/
def NRM (f : Nat → Int) (n : Nat) : Prop := (∀ i, i < n → 0 ≤ f i ∧ f i < 2147483648) ∧ (0 < n → f (n - 1) ≠ 0)
theorem lim0 {f : Nat → Int} {n : Nat} (h : ∀ i, i < n → 0 ≤ f i ∧ f i < 2147483648) : lim f 0 n := fun i hi => by rw [Nat.zero_add]; exact h i hi
set_option maxHeartbeats 4000000 in
set_option maxRecDepth 100000 in
theorem rp_loadU {p : Program} {l : Launch} {e : Env} {R : Room} {s : State} {m : MethodId} {args : Array Value} {below : List Frame} {meth : Method} {c : Code} {D : va_G} {ad : Nat → Nat} {Q : State → Prop} (C : Fx p s m args meth c D ad cX6_loadU 3 none yX6_loadU.cls tb) (ρ : St) (h A z r : Nat) (hh : h < 24) (hA : ρ 8 h = A) (hAz : A + z ≤ 2048) (hr : r ≤ z) (hf : ρ 0 29 = r) (hL : LMr ρ) (K : ∀ lv, X p l e R s m args below meth c D ad 3 Q (rc D ad (upr ρ 24 (mvF (ρ 24) (fun k => ρ 4 (A + k)) r))) 44 lv []) (n i : Nat) (hn : r - i < n) (hi : i ≤ r) (ρ1 : St) (e1 : ρ1 = upr ρ 24 (mvF (ρ 24) (fun k => ρ 4 (A + k)) i)) : X p l e R s m args below meth c D ad 3 Q (rc D ad ρ1) 11 [(2, vi (i : Int)), (0, .ref (ad 0)), (1, vi (h : Int))] [] := by
  induction n generalizing i ρ1 with
  | zero => omega
  | succ n ih =>
  refine x_iload_n C dX6_loadU_11 rfl rfl ?_
  refine x_aload_n C dX6_loadU_12 rfl rfl ?_
  refine x_get C (Cn := RX6) (T := TX6) (N := 33) (ci := 6) 29 dX6_loadU_13 m_w_6 m_f_RX6_179 rfl (by decide) rfl rfl ?_
  rw [show ρ1 0 29 = r by rw [e1, upr_n (by decide)]; exact hf]
  refine x_icmp_ge (tgt := 44) C dX6_loadU_16 (by decide) (by omega) (by omega) (fun c_16 => ?_) (fun c_16 => ?_)
  · obtain rfl : i = r := by omega
    rw [e1]
    exact K _
  · refine x_aload_n C dX6_loadU_19 rfl rfl ?_
    refine x_get C (Cn := RX6) (T := TX6) (N := 33) (ci := 6) 24 dX6_loadU_20 m_w_6 m_f_RX6_66 rfl (by decide) rfl rfl ?_
    refine x_iload_n C dX6_loadU_23 rfl rfl ?_
    refine x_aload_n C dX6_loadU_24 rfl rfl ?_
    refine x_get C (Cn := RX6) (T := TX6) (N := 33) (ci := 6) 4 dX6_loadU_25 m_w_6 m_f_RX6_7 rfl (by decide) rfl rfl ?_
    refine x_aload_n C dX6_loadU_28 rfl rfl ?_
    refine x_get C (Cn := RX6) (T := TX6) (N := 33) (ci := 6) 8 dX6_loadU_29 m_w_6 m_f_RX6_23 rfl (by decide) rfl rfl ?_
    refine x_iload_n C dX6_loadU_32 rfl rfl ?_
    refine x_iald C dX6_loadU_33 rfl (by omega) (by omega) ?_
    rw [Int.toNat_natCast, show ρ1 8 h = A by rw [e1, upr_n (by decide)]; exact hA]
    refine x_iload_n C dX6_loadU_34 rfl rfl ?_
    refine x_iadd C dX6_loadU_35 ?_
    refine x_iald C dX6_loadU_36 rfl (by omega) (by omega) ?_
    rw [show ((A : Int) + (i : Int)).toNat = A + i by omega, show ρ1 4 = ρ 4 by rw [e1, upr_n (by decide)]]
    refine r_ast C dX6_loadU_37 (fun _ => rfl) (by omega) (by omega) ?_
    refine x_iinc C (lv' := [(2, _), (0, _), (1, _)]) dX6_loadU_38 rfl (by decide) rfl ?_
    refine x_goto (tgt := 11) C dX6_loadU_41 (by decide) ?_
    rw [show (i : Int) + 1 = ((i + 1 : Nat) : Int) by omega]
    refine ih (i + 1) (by omega) (by omega) _ ?_
    rw [Int.toNat_natCast, e1]
    exact mv_step ρ 24 i (fun k => ρ 4 (A + k))
set_option maxHeartbeats 4000000 in
set_option maxRecDepth 100000 in
theorem r_loadU {l : Launch} {D : va_G} {ad : Nat → Nat} (ρ : St) (hL : LMr ρ) (h A z : Nat) (hh : h < 24) (hA : ρ 8 h = A) (hz : ρ 7 h = z) (hAz : A + z ≤ 2048) : Rt l D ad yX6_loadU (Cond.code yX6_loadU cX6_loadU 3 none :: tb) 1 40 [.ref (ad 0), vi (h : Int)] ρ (fun v ρ' => v = none ∧ ∃ r : Nat, sgP (ρ 4) A z r ∧ ρ' = upr (up ρ 0 29 (r : Int)) 24 (mvF (ρ 24) (fun k => ρ 4 (A + k)) r)) := by
  refine ct_of (by decide) rfl (Nat.le_of_ble_eq_true rfl) ?_
  intro p e s m below meth c C
  change X _ _ _ _ _ _ _ _ _ _ _ _ _ _ _ _ [(0, .ref (ad 0)), (1, vi (h : Int))] _
  refine x_aload_n C dX6_loadU_0 rfl rfl ?_
  refine x_aload_n C dX6_loadU_1 rfl rfl ?_
  refine x_iload_n C dX6_loadU_2 rfl rfl ?_
  refine x_callV C (ci := 6) (nn := 1) (r_length ρ hL h A z hh hA hz hAz) g_RX6_146 rfl (by decide +kernel) ⟨by first | decide | omega, by first | decide | omega⟩ rfl rfl rfl rfl rfl (Nat.le_of_ble_eq_true rfl) dX6_loadU_3 (fun v h1 hp => ?_)
  obtain ⟨ρ1, rfl, rfl, r, rfl, hr⟩ := hp
  have hrl := hr.1
  refine r_put C 29 (by decide) (by decide) dX6_loadU_6 m_f_RX6_179 rfl (by decide +kernel) ?_
  refine x_iconst C dX6_loadU_9 ?_
  refine x_istore_n C (lv' := [(2, _), (0, _), (1, _)]) dX6_loadU_10 rfl (by decide) rfl ?_
  refine rp_loadU C (up ρ 0 29 (r : Int)) h A z r hh (by rw [up_n (by decide)]; exact hA) hAz hrl (by rw [up_s, zup_s]) (by unfold LMr; rw [up_n (by decide)]; exact hL) ?_ (r + 1) 0 (by omega) (by omega) _ (mv_0 _ _ _).symm
  intro lv
  refine x_vret C dX6_loadU_44 ⟨_, rfl, rfl, r, hr, ?_⟩
  rw [up_n (show 24 ≠ 0 by decide), up_n (show 4 ≠ 0 by decide)]
set_option maxHeartbeats 4000000 in
set_option maxRecDepth 100000 in
theorem rp_loadV {p : Program} {l : Launch} {e : Env} {R : Room} {s : State} {m : MethodId} {args : Array Value} {below : List Frame} {meth : Method} {c : Code} {D : va_G} {ad : Nat → Nat} {Q : State → Prop} (C : Fx p s m args meth c D ad cX6_loadV 3 none yX6_loadV.cls tb) (ρ : St) (h A z r : Nat) (hh : h < 24) (hA : ρ 8 h = A) (hAz : A + z ≤ 2048) (hr : r ≤ z) (hf : ρ 0 30 = r) (hL : LMr ρ) (K : ∀ lv, X p l e R s m args below meth c D ad 3 Q (rc D ad (upr ρ 25 (mvF (ρ 25) (fun k => ρ 4 (A + k)) r))) 44 lv []) (n i : Nat) (hn : r - i < n) (hi : i ≤ r) (ρ1 : St) (e1 : ρ1 = upr ρ 25 (mvF (ρ 25) (fun k => ρ 4 (A + k)) i)) : X p l e R s m args below meth c D ad 3 Q (rc D ad ρ1) 11 [(2, vi (i : Int)), (0, .ref (ad 0)), (1, vi (h : Int))] [] := by
  induction n generalizing i ρ1 with
  | zero => omega
  | succ n ih =>
  refine x_iload_n C dX6_loadV_11 rfl rfl ?_
  refine x_aload_n C dX6_loadV_12 rfl rfl ?_
  refine x_get C (Cn := RX6) (T := TX6) (N := 33) (ci := 6) 30 dX6_loadV_13 m_w_6 m_f_RX6_182 rfl (by decide) rfl rfl ?_
  rw [show ρ1 0 30 = r by rw [e1, upr_n (by decide)]; exact hf]
  refine x_icmp_ge (tgt := 44) C dX6_loadV_16 (by decide) (by omega) (by omega) (fun c_16 => ?_) (fun c_16 => ?_)
  · obtain rfl : i = r := by omega
    rw [e1]
    exact K _
  · refine x_aload_n C dX6_loadV_19 rfl rfl ?_
    refine x_get C (Cn := RX6) (T := TX6) (N := 33) (ci := 6) 25 dX6_loadV_20 m_w_6 m_f_RX6_69 rfl (by decide) rfl rfl ?_
    refine x_iload_n C dX6_loadV_23 rfl rfl ?_
    refine x_aload_n C dX6_loadV_24 rfl rfl ?_
    refine x_get C (Cn := RX6) (T := TX6) (N := 33) (ci := 6) 4 dX6_loadV_25 m_w_6 m_f_RX6_7 rfl (by decide) rfl rfl ?_
    refine x_aload_n C dX6_loadV_28 rfl rfl ?_
    refine x_get C (Cn := RX6) (T := TX6) (N := 33) (ci := 6) 8 dX6_loadV_29 m_w_6 m_f_RX6_23 rfl (by decide) rfl rfl ?_
    refine x_iload_n C dX6_loadV_32 rfl rfl ?_
    refine x_iald C dX6_loadV_33 rfl (by omega) (by omega) ?_
    rw [Int.toNat_natCast, show ρ1 8 h = A by rw [e1, upr_n (by decide)]; exact hA]
    refine x_iload_n C dX6_loadV_34 rfl rfl ?_
    refine x_iadd C dX6_loadV_35 ?_
    refine x_iald C dX6_loadV_36 rfl (by omega) (by omega) ?_
    rw [show ((A : Int) + (i : Int)).toNat = A + i by omega, show ρ1 4 = ρ 4 by rw [e1, upr_n (by decide)]]
    refine r_ast C dX6_loadV_37 (fun _ => rfl) (by omega) (by omega) ?_
    refine x_iinc C (lv' := [(2, _), (0, _), (1, _)]) dX6_loadV_38 rfl (by decide) rfl ?_
    refine x_goto (tgt := 11) C dX6_loadV_41 (by decide) ?_
    rw [show (i : Int) + 1 = ((i + 1 : Nat) : Int) by omega]
    refine ih (i + 1) (by omega) (by omega) _ ?_
    rw [Int.toNat_natCast, e1]
    exact mv_step ρ 25 i (fun k => ρ 4 (A + k))
set_option maxHeartbeats 4000000 in
set_option maxRecDepth 100000 in
theorem r_loadV {l : Launch} {D : va_G} {ad : Nat → Nat} (ρ : St) (hL : LMr ρ) (h A z : Nat) (hh : h < 24) (hA : ρ 8 h = A) (hz : ρ 7 h = z) (hAz : A + z ≤ 2048) : Rt l D ad yX6_loadV (Cond.code yX6_loadV cX6_loadV 3 none :: tb) 1 40 [.ref (ad 0), vi (h : Int)] ρ (fun v ρ' => v = none ∧ ∃ r : Nat, sgP (ρ 4) A z r ∧ ρ' = upr (up ρ 0 30 (r : Int)) 25 (mvF (ρ 25) (fun k => ρ 4 (A + k)) r)) := by
  refine ct_of (by decide) rfl (Nat.le_of_ble_eq_true rfl) ?_
  intro p e s m below meth c C
  change X _ _ _ _ _ _ _ _ _ _ _ _ _ _ _ _ [(0, .ref (ad 0)), (1, vi (h : Int))] _
  refine x_aload_n C dX6_loadV_0 rfl rfl ?_
  refine x_aload_n C dX6_loadV_1 rfl rfl ?_
  refine x_iload_n C dX6_loadV_2 rfl rfl ?_
  refine x_callV C (ci := 6) (nn := 1) (r_length ρ hL h A z hh hA hz hAz) g_RX6_146 rfl (by decide +kernel) ⟨by first | decide | omega, by first | decide | omega⟩ rfl rfl rfl rfl rfl (Nat.le_of_ble_eq_true rfl) dX6_loadV_3 (fun v h1 hp => ?_)
  obtain ⟨ρ1, rfl, rfl, r, rfl, hr⟩ := hp
  have hrl := hr.1
  refine r_put C 30 (by decide) (by decide) dX6_loadV_6 m_f_RX6_182 rfl (by decide +kernel) ?_
  refine x_iconst C dX6_loadV_9 ?_
  refine x_istore_n C (lv' := [(2, _), (0, _), (1, _)]) dX6_loadV_10 rfl (by decide) rfl ?_
  refine rp_loadV C (up ρ 0 30 (r : Int)) h A z r hh (by rw [up_n (by decide)]; exact hA) hAz hrl (by rw [up_s, zup_s]) (by unfold LMr; rw [up_n (by decide)]; exact hL) ?_ (r + 1) 0 (by omega) (by omega) _ (mv_0 _ _ _).symm
  intro lv
  refine x_vret C dX6_loadV_44 ⟨_, rfl, rfl, r, hr, ?_⟩
  rw [up_n (show 25 ≠ 0 by decide), up_n (show 4 ≠ 0 by decide)]
set_option maxHeartbeats 4000000 in
set_option maxRecDepth 100000 in
theorem rp_uToR {p : Program} {l : Launch} {e : Env} {R : Room} {s : State} {m : MethodId} {args : Array Value} {below : List Frame} {meth : Method} {c : Code} {D : va_G} {ad : Nat → Nat} {Q : State → Prop} (C : Fx p s m args meth c D ad cX6_uToR 2 none yX6_uToR.cls tb) (ρ : St) (r : Nat) (hr : r ≤ 2100) (hf : ρ 0 29 = r) (K : ∀ lv, X p l e R s m args below meth c D ad 2 Q (rc D ad (upr ρ 28 (mvF (ρ 28) (ρ 24) r))) 36 lv []) (n i : Nat) (hn : r - i < n) (hi : i ≤ r) (ρ1 : St) (e1 : ρ1 = upr ρ 28 (mvF (ρ 28) (ρ 24) i)) : X p l e R s m args below meth c D ad 2 Q (rc D ad ρ1) 10 [(1, vi (i : Int)), (0, .ref (ad 0))] [] := by
  induction n generalizing i ρ1 with
  | zero => omega
  | succ n ih =>
  refine x_iload_n C dX6_uToR_10 rfl rfl ?_
  refine x_aload_n C dX6_uToR_11 rfl rfl ?_
  refine x_get C (Cn := RX6) (T := TX6) (N := 33) (ci := 6) 29 dX6_uToR_12 m_w_6 m_f_RX6_179 rfl (by decide) rfl rfl ?_
  rw [show ρ1 0 29 = r by rw [e1, upr_n (by decide)]; exact hf]
  refine x_icmp_ge (tgt := 36) C dX6_uToR_15 (by decide) (by omega) (by omega) (fun c_15 => ?_) (fun c_15 => ?_)
  · obtain rfl : i = r := by omega
    rw [e1]
    exact K _
  · refine x_aload_n C dX6_uToR_18 rfl rfl ?_
    refine x_get C (Cn := RX6) (T := TX6) (N := 33) (ci := 6) 28 dX6_uToR_19 m_w_6 m_f_RX6_78 rfl (by decide) rfl rfl ?_
    refine x_iload_n C dX6_uToR_22 rfl rfl ?_
    refine x_aload_n C dX6_uToR_23 rfl rfl ?_
    refine x_get C (Cn := RX6) (T := TX6) (N := 33) (ci := 6) 24 dX6_uToR_24 m_w_6 m_f_RX6_66 rfl (by decide) rfl rfl ?_
    refine x_iload_n C dX6_uToR_27 rfl rfl ?_
    refine x_iald C dX6_uToR_28 rfl (by omega) (by omega) ?_
    rw [Int.toNat_natCast, show ρ1 24 = ρ 24 by rw [e1, upr_n (by decide)]]
    refine r_ast C dX6_uToR_29 (fun _ => rfl) (by omega) (by omega) ?_
    refine x_iinc C (lv' := [(1, _), (0, _)]) dX6_uToR_30 rfl (by decide) rfl ?_
    refine x_goto (tgt := 10) C dX6_uToR_33 (by decide) ?_
    rw [show (i : Int) + 1 = ((i + 1 : Nat) : Int) by omega]
    refine ih (i + 1) (by omega) (by omega) _ ?_
    rw [Int.toNat_natCast, e1]
    exact mv_step ρ 28 i (ρ 24)
set_option maxHeartbeats 4000000 in
set_option maxRecDepth 100000 in
theorem r_uToR {l : Launch} {D : va_G} {ad : Nat → Nat} (ρ : St) (r : Nat) (hr : r ≤ 2100) (hf : ρ 0 29 = r) : Rt l D ad yX6_uToR (Cond.code yX6_uToR cX6_uToR 2 none :: tb) 0 0 [.ref (ad 0)] ρ (fun v ρ' => v = none ∧ ρ' = upr (up ρ 0 32 (r : Int)) 28 (mvF (ρ 28) (ρ 24) r)) := by
  refine ct_of (by decide) rfl (Nat.le_of_ble_eq_true rfl) ?_
  intro p e s m below meth c C
  change X _ _ _ _ _ _ _ _ _ _ _ _ _ _ _ _ [(0, .ref (ad 0))] _
  refine x_aload_n C dX6_uToR_0 rfl rfl ?_
  refine x_aload_n C dX6_uToR_1 rfl rfl ?_
  refine x_get C (Cn := RX6) (T := TX6) (N := 33) (ci := 6) 29 dX6_uToR_2 m_w_6 m_f_RX6_179 rfl (by decide) rfl rfl ?_
  rw [hf]
  refine r_put C 32 (by decide) (by decide) dX6_uToR_5 m_f_RX6_200 rfl (by decide +kernel) ?_
  refine x_iconst C dX6_uToR_8 ?_
  refine x_istore_n C (lv' := [(1, _), (0, _)]) dX6_uToR_9 rfl (by decide) rfl ?_
  refine rp_uToR C (up ρ 0 32 (r : Int)) r hr (by rw [up_s, zup_n (by decide)]; exact hf) ?_ (r + 1) 0 (by omega) (by omega) _ (mv_0 _ _ _).symm
  intro lv
  refine x_vret C dX6_uToR_36 ⟨_, rfl, rfl, ?_⟩
  rw [up_n (show 28 ≠ 0 by decide), up_n (show 24 ≠ 0 by decide)]
set_option maxHeartbeats 4000000 in
set_option maxRecDepth 100000 in
theorem rp_putU {p : Program} {l : Launch} {e : Env} {R : Room} {s : State} {m : MethodId} {args : Array Value} {below : List Frame} {meth : Method} {c : Code} {D : va_G} {ad : Nat → Nat} {Q : State → Prop} (C : Fx p s m args meth c D ad cX6_putU 3 none yX6_putU.cls tb) (ρ : St) (h A z r : Nat) (hh : h < 24) (hA : ρ 8 h = A) (hz : ρ 7 h = z) (hAz : A + z ≤ 2048) (hf : ρ 0 29 = r) (hr : r ≤ 4200) (K : ∀ lv, X p l e R s m args below meth c D ad 3 Q (rc D ad (upr ρ 4 (ptF (ρ 4) (ρ 24) A z r))) 49 lv []) (n i : Nat) (hn : z - i < n) (hi : i ≤ z) (ρ1 : St) (e1 : ρ1 = upr ρ 4 (ptF (ρ 4) (ρ 24) A i r)) : X p l e R s m args below meth c D ad 3 Q (rc D ad ρ1) 2 [(2, vi (i : Int)), (0, .ref (ad 0)), (1, vi (h : Int))] [] := by
  induction n generalizing i ρ1 with
  | zero => omega
  | succ n ih =>
  refine x_iload_n C dX6_putU_2 rfl rfl ?_
  refine x_aload_n C dX6_putU_3 rfl rfl ?_
  refine x_get C (Cn := RX6) (T := TX6) (N := 33) (ci := 6) 7 dX6_putU_4 m_w_6 m_f_RX6_20 rfl (by decide) rfl rfl ?_
  refine x_iload_n C dX6_putU_7 rfl rfl ?_
  refine x_iald C dX6_putU_8 rfl (by omega) (by omega) ?_
  rw [Int.toNat_natCast, show ρ1 7 h = z by rw [e1, upr_n (by decide)]; exact hz]
  refine x_icmp_ge (tgt := 49) C dX6_putU_9 (by decide) (by omega) (by omega) (fun c_9 => ?_) (fun c_9 => ?_)
  · obtain rfl : i = z := by omega
    rw [e1]
    exact K _
  · refine x_aload_n C dX6_putU_12 rfl rfl ?_
    refine x_get C (Cn := RX6) (T := TX6) (N := 33) (ci := 6) 4 dX6_putU_13 m_w_6 m_f_RX6_7 rfl (by decide) rfl rfl ?_
    refine x_aload_n C dX6_putU_16 rfl rfl ?_
    refine x_get C (Cn := RX6) (T := TX6) (N := 33) (ci := 6) 8 dX6_putU_17 m_w_6 m_f_RX6_23 rfl (by decide) rfl rfl ?_
    refine x_iload_n C dX6_putU_20 rfl rfl ?_
    refine x_iald C dX6_putU_21 rfl (by omega) (by omega) ?_
    rw [Int.toNat_natCast, show ρ1 8 h = A by rw [e1, upr_n (by decide)]; exact hA]
    refine x_iload_n C dX6_putU_22 rfl rfl ?_
    refine x_iadd C dX6_putU_23 ?_
    refine x_iload_n C dX6_putU_24 rfl rfl ?_
    refine x_aload_n C dX6_putU_25 rfl rfl ?_
    refine x_get C (Cn := RX6) (T := TX6) (N := 33) (ci := 6) 29 dX6_putU_26 m_w_6 m_f_RX6_179 rfl (by decide) rfl rfl ?_
    rw [show ρ1 0 29 = r by rw [e1, upr_n (by decide)]; exact hf]
    refine x_icmp_ge (tgt := 41) C dX6_putU_29 (by decide) (by omega) (by omega) (fun c_29 => ?_) (fun c_29 => ?_)
    · have hsel : (if i < r then ρ 24 i else 0) = 0 := if_neg (by omega)
      refine x_iconst C dX6_putU_41 ?_
      refine r_ast C dX6_putU_42 (fun _ => rfl) (by omega) (by omega) ?_
      refine x_iinc C (lv' := [(2, _), (0, _), (1, _)]) dX6_putU_43 rfl (by decide) rfl ?_
      refine x_goto (tgt := 2) C dX6_putU_46 (by decide) ?_
      rw [show (i : Int) + 1 = ((i + 1 : Nat) : Int) by omega]
      refine ih (i + 1) (by omega) (by omega) _ ?_
      rw [← pt_step, hsel, show ((A : Int) + (i : Int)).toNat = A + i by omega, e1]
    · refine x_aload_n C dX6_putU_32 rfl rfl ?_
      refine x_get C (Cn := RX6) (T := TX6) (N := 33) (ci := 6) 24 dX6_putU_33 m_w_6 m_f_RX6_66 rfl (by decide) rfl rfl ?_
      refine x_iload_n C dX6_putU_36 rfl rfl ?_
      refine x_iald C dX6_putU_37 rfl (by omega) (by omega) ?_
      rw [Int.toNat_natCast, show ρ1 24 = ρ 24 by rw [e1, upr_n (by decide)]]
      have hsel : (if i < r then ρ 24 i else 0) = ρ 24 i := if_pos (by omega)
      refine x_goto (tgt := 42) C dX6_putU_38 (by decide) ?_
      refine r_ast C dX6_putU_42 (fun _ => rfl) (by omega) (by omega) ?_
      refine x_iinc C (lv' := [(2, _), (0, _), (1, _)]) dX6_putU_43 rfl (by decide) rfl ?_
      refine x_goto (tgt := 2) C dX6_putU_46 (by decide) ?_
      rw [show (i : Int) + 1 = ((i + 1 : Nat) : Int) by omega]
      refine ih (i + 1) (by omega) (by omega) _ ?_
      rw [← pt_step, hsel, show ((A : Int) + (i : Int)).toNat = A + i by omega, e1]
set_option maxHeartbeats 4000000 in
set_option maxRecDepth 100000 in
theorem r_putU {l : Launch} {D : va_G} {ad : Nat → Nat} (ρ : St) (h A z r : Nat) (hh : h < 24) (hA : ρ 8 h = A) (hz : ρ 7 h = z) (hAz : A + z ≤ 2048) (hf : ρ 0 29 = r) (hr : r ≤ 4200) : Rt l D ad yX6_putU (Cond.code yX6_putU cX6_putU 3 none :: tb) 0 0 [.ref (ad 0), vi (h : Int)] ρ (fun v ρ' => v = none ∧ ρ' = upr ρ 4 (ptF (ρ 4) (ρ 24) A z r)) := by
  refine ct_of (by decide) rfl (Nat.le_of_ble_eq_true rfl) ?_
  intro p e s m below meth c C
  change X _ _ _ _ _ _ _ _ _ _ _ _ _ _ _ _ [(0, .ref (ad 0)), (1, vi (h : Int))] _
  refine x_iconst C dX6_putU_0 ?_
  refine x_istore_n C (lv' := [(2, _), (0, _), (1, _)]) dX6_putU_1 rfl (by decide) rfl ?_
  refine rp_putU C ρ h A z r hh hA hz hAz hf hr ?_ (z + 1) 0 (by omega) (by omega) _ (pt_0 _ _ _ _).symm
  intro lv
  exact x_vret C dX6_putU_49 ⟨_, rfl, rfl, rfl⟩
set_option maxHeartbeats 4000000 in
set_option maxRecDepth 100000 in
theorem rp_timesI {p : Program} {l : Launch} {e : Env} {R : Room} {s : State} {m : MethodId} {args : Array Value} {below : List Frame} {meth : Method} {c : Code} {D : va_G} {ad : Nat → Nat} {Q : State → Prop} (C : Fx p s m args meth c D ad cX6_times 9 none yX6_times.cls tb) (ρ : St) (rn mm xr : Nat) (by0 : Int) (hx : (by0 = 1 ∧ xr = 27) ∨ (by0 = 0 ∧ xr = 28)) (hR : ∀ i, i < rn → 0 ≤ ρ 28 i ∧ ρ 28 i < 2147483648) (hX : ∀ i, i < mm → 0 ≤ ρ xr i ∧ ρ xr i < 2147483648) (hlt : rn ≤ 2100 ∧ mm ≤ 2100 ∧ rn + mm ≤ 4200) (i : Nat) (hi : i < rn) (f0 : Nat → Int) (K : ∀ (ρ1 : St) (cy : Int) (kk : Int) lv, (∀ q, q < rn + mm → 0 ≤ ρ1 24 q ∧ ρ1 24 q < 2147483648) → (∀ q, ¬ (i ≤ q ∧ q < i + mm) → ρ1 24 q = f0 q) → (∀ q, q ≠ 24 → ρ1 q = ρ q) → (0 ≤ cy ∧ cy < 2147483648) → nv (ρ1 24) i mm + cy * 2147483648 ^ mm = nv f0 i mm + ρ 28 i * nv (ρ xr) 0 mm → X p l e R s m args below meth c D ad 9 Q (rc D ad ρ1) 138 ((6, vi kk) :: (4, vl cy) :: (3, vi (i : Int)) :: (2, vi (mm : Int)) :: (0, .ref (ad 0)) :: (1, vi by0) :: lv) []) (n k : Nat) (hn : mm - k < n) (hk : k ≤ mm) (ρ1 : St) (cy : Int) (h1 : ∀ q, q < rn + mm → 0 ≤ ρ1 24 q ∧ ρ1 24 q < 2147483648) (h2 : ∀ q, ¬ (i ≤ q ∧ q < i + k) → ρ1 24 q = f0 q) (h3 : ∀ q, q ≠ 24 → ρ1 q = ρ q) (h4 : 0 ≤ cy ∧ cy < 2147483648) (h5 : nv (ρ1 24) i k + cy * 2147483648 ^ k = nv f0 i k + ρ 28 i * nv (ρ xr) 0 k) : X p l e R s m args below meth c D ad 9 Q (rc D ad ρ1) 57 [(6, vi (k : Int)), (4, vl cy), (3, vi (i : Int)), (2, vi (mm : Int)), (0, .ref (ad 0)), (1, vi by0)] [] := by
  induction n generalizing k ρ1 cy with
  | zero => omega
  | succ n ih =>
  refine x_iload C dX6_times_57 rfl ?_
  refine x_iload_n C dX6_times_59 rfl rfl ?_
  refine x_icmp_ge (tgt := 138) C dX6_times_60 (by decide) (by omega) (by omega) (fun c_60 => ?_) (fun c_60 => ?_)
  · obtain rfl : k = mm := by omega
    exact K ρ1 cy _ [] h1 h2 h3 h4 h5
  · have hri := hR i hi
    have hxk := hX k (by omega)
    have huk := h1 (i + k) (by omega)
    have hmb := mulB hri hxk
    have hik : ((i : Int) + (k : Int)).toNat = i + k := by omega
    refine x_aload_n C dX6_times_63 rfl rfl ?_
    refine x_get C (Cn := RX6) (T := TX6) (N := 33) (ci := 6) 28 dX6_times_64 m_w_6 m_f_RX6_78 rfl (by decide) rfl rfl ?_
    refine x_iload_n C dX6_times_67 rfl rfl ?_
    refine x_iald C dX6_times_68 rfl (by omega) (by omega) ?_
    rw [Int.toNat_natCast, h3 28 (by decide)]
    refine x_i2l C dX6_times_69 (by omega) ?_
    refine x_iload_n C dX6_times_70 rfl rfl ?_
    refine x_if_eq (tgt := 84) C dX6_times_71 (by decide) (by omega) (fun c_71 => ?_) (fun c_71 => ?_)
    · obtain rfl : xr = 28 := by omega
      refine x_aload_n C dX6_times_84 rfl rfl ?_
      refine x_get C (Cn := RX6) (T := TX6) (N := 33) (ci := 6) 28 dX6_times_85 m_w_6 m_f_RX6_78 rfl (by decide) rfl rfl ?_
      refine x_iload C dX6_times_88 rfl ?_
      refine x_iald C dX6_times_90 rfl (by omega) (by omega) ?_
      rw [Int.toNat_natCast, h3 28 (by decide)]
      refine x_i2l C dX6_times_91 (by omega) ?_
      refine x_lmul C dX6_times_92 ?_
      refine x_aload_n C dX6_times_93 rfl rfl ?_
      refine x_get C (Cn := RX6) (T := TX6) (N := 33) (ci := 6) 24 dX6_times_94 m_w_6 m_f_RX6_66 rfl (by decide) rfl rfl ?_
      refine x_iload_n C dX6_times_97 rfl rfl ?_
      refine x_iload C dX6_times_98 rfl ?_
      refine x_iadd C dX6_times_100 ?_
      refine x_iald C dX6_times_101 rfl (by omega) (by omega) ?_
      rw [hik]
      refine x_i2l C dX6_times_102 (by omega) ?_
      refine x_ladd C dX6_times_103 ?_
      refine x_lload C dX6_times_104 rfl ?_
      refine x_ladd C dX6_times_106 ?_
      obtain ⟨p, hp⟩ : ∃ p, p = ρ 28 i * ρ 28 k + ρ1 24 (i + k) + cy := ⟨_, rfl⟩
      rw [← hp]
      have hpb : 0 ≤ p ∧ p < 4611686018427387904 := by omega
      refine x_lstore C (lv' := [(7, _), (6, _), (4, _), (3, _), (2, _), (0, _), (1, _)]) dX6_times_107 (by decide) rfl ?_
      refine x_aload_n C dX6_times_109 rfl rfl ?_
      refine x_get C (Cn := RX6) (T := TX6) (N := 33) (ci := 6) 24 dX6_times_110 m_w_6 m_f_RX6_66 rfl (by decide) rfl rfl ?_
      refine x_iload_n C dX6_times_113 rfl rfl ?_
      refine x_iload C dX6_times_114 rfl ?_
      refine x_iadd C dX6_times_116 ?_
      refine x_lload C dX6_times_117 rfl ?_
      refine x_ldc2 C (z := 2147483647) dX6_times_119 (C.2.2.2.2.1 _ m_k_RX6_189) (by decide) ?_
      refine x_land C (z := _) dX6_times_122 (lI_mask _) ?_
      refine x_l2i C dX6_times_123 ?_
      refine r_ast C dX6_times_124 (fun _ => rfl) (by omega) (by omega) ?_
      refine x_lload C dX6_times_125 rfl ?_
      refine x_bipush C (z := 31) dX6_times_127 (by decide) ?_
      refine x_lshr C dX6_times_129 (by omega) (by omega) ?_
      rw [show p / 2 ^ (31 : Int).toNat = p / 2147483648 from rfl]
      refine x_lstore C (lv' := [(4, _), (7, _), (6, _), (3, _), (2, _), (0, _), (1, _)]) dX6_times_130 (by decide) rfl ?_
      refine x_iinc C (lv' := [(6, _), (4, _), (7, _), (3, _), (2, _), (0, _), (1, _)]) dX6_times_132 rfl (by decide) rfl ?_
      refine x_goto (tgt := 57) C dX6_times_135 (by decide) ?_
      refine X.sub [0, 1, 3, 4, 5, 6] rfl ?_
      rw [show (k : Int) + 1 = ((k + 1 : Nat) : Int) by omega]
      refine ih (k + 1) (by omega) (by omega) _ _ ?_ ?_ (fun q hq => by rw [up_n hq]; exact h3 q hq) (by omega) ?_
      · intro q hq
        rw [up_s, hik]
        by_cases c : q = i + k
        · rw [c, zup_s]; omega
        · rw [zup_n c]; exact h1 q hq
      · intro q hq
        rw [up_s, hik, zup_n (by omega)]; exact h2 q (by omega)
      · rw [up_s, hik]
        exact tm_step h5 (by rw [hp, h2 _ (by omega)])
    · obtain rfl : xr = 27 := by omega
      refine x_aload_n C dX6_times_74 rfl rfl ?_
      refine x_get C (Cn := RX6) (T := TX6) (N := 33) (ci := 6) 27 dX6_times_75 m_w_6 m_f_RX6_75 rfl (by decide) rfl rfl ?_
      refine x_iload C dX6_times_78 rfl ?_
      refine x_iald C dX6_times_80 rfl (by omega) (by omega) ?_
      rw [Int.toNat_natCast, h3 27 (by decide)]
      refine x_goto (tgt := 91) C dX6_times_81 (by decide) ?_
      refine x_i2l C dX6_times_91 (by omega) ?_
      refine x_lmul C dX6_times_92 ?_
      refine x_aload_n C dX6_times_93 rfl rfl ?_
      refine x_get C (Cn := RX6) (T := TX6) (N := 33) (ci := 6) 24 dX6_times_94 m_w_6 m_f_RX6_66 rfl (by decide) rfl rfl ?_
      refine x_iload_n C dX6_times_97 rfl rfl ?_
      refine x_iload C dX6_times_98 rfl ?_
      refine x_iadd C dX6_times_100 ?_
      refine x_iald C dX6_times_101 rfl (by omega) (by omega) ?_
      rw [hik]
      refine x_i2l C dX6_times_102 (by omega) ?_
      refine x_ladd C dX6_times_103 ?_
      refine x_lload C dX6_times_104 rfl ?_
      refine x_ladd C dX6_times_106 ?_
      obtain ⟨p, hp⟩ : ∃ p, p = ρ 28 i * ρ 27 k + ρ1 24 (i + k) + cy := ⟨_, rfl⟩
      rw [← hp]
      have hpb : 0 ≤ p ∧ p < 4611686018427387904 := by omega
      refine x_lstore C (lv' := [(7, _), (6, _), (4, _), (3, _), (2, _), (0, _), (1, _)]) dX6_times_107 (by decide) rfl ?_
      refine x_aload_n C dX6_times_109 rfl rfl ?_
      refine x_get C (Cn := RX6) (T := TX6) (N := 33) (ci := 6) 24 dX6_times_110 m_w_6 m_f_RX6_66 rfl (by decide) rfl rfl ?_
      refine x_iload_n C dX6_times_113 rfl rfl ?_
      refine x_iload C dX6_times_114 rfl ?_
      refine x_iadd C dX6_times_116 ?_
      refine x_lload C dX6_times_117 rfl ?_
      refine x_ldc2 C (z := 2147483647) dX6_times_119 (C.2.2.2.2.1 _ m_k_RX6_189) (by decide) ?_
      refine x_land C (z := _) dX6_times_122 (lI_mask _) ?_
      refine x_l2i C dX6_times_123 ?_
      refine r_ast C dX6_times_124 (fun _ => rfl) (by omega) (by omega) ?_
      refine x_lload C dX6_times_125 rfl ?_
      refine x_bipush C (z := 31) dX6_times_127 (by decide) ?_
      refine x_lshr C dX6_times_129 (by omega) (by omega) ?_
      rw [show p / 2 ^ (31 : Int).toNat = p / 2147483648 from rfl]
      refine x_lstore C (lv' := [(4, _), (7, _), (6, _), (3, _), (2, _), (0, _), (1, _)]) dX6_times_130 (by decide) rfl ?_
      refine x_iinc C (lv' := [(6, _), (4, _), (7, _), (3, _), (2, _), (0, _), (1, _)]) dX6_times_132 rfl (by decide) rfl ?_
      refine x_goto (tgt := 57) C dX6_times_135 (by decide) ?_
      refine X.sub [0, 1, 3, 4, 5, 6] rfl ?_
      rw [show (k : Int) + 1 = ((k + 1 : Nat) : Int) by omega]
      refine ih (k + 1) (by omega) (by omega) _ _ ?_ ?_ (fun q hq => by rw [up_n hq]; exact h3 q hq) (by omega) ?_
      · intro q hq
        rw [up_s, hik]
        by_cases c : q = i + k
        · rw [c, zup_s]; omega
        · rw [zup_n c]; exact h1 q hq
      · intro q hq
        rw [up_s, hik, zup_n (by omega)]; exact h2 q (by omega)
      · rw [up_s, hik]
        exact tm_step h5 (by rw [hp, h2 _ (by omega)])
set_option maxHeartbeats 4000000 in
set_option maxRecDepth 100000 in
theorem rp_timesO {p : Program} {l : Launch} {e : Env} {R : Room} {s : State} {m : MethodId} {args : Array Value} {below : List Frame} {meth : Method} {c : Code} {D : va_G} {ad : Nat → Nat} {Q : State → Prop} (C : Fx p s m args meth c D ad cX6_times 9 none yX6_times.cls tb) (ρ : St) (rn mm xr : Nat) (by0 : Int) (hx : (by0 = 1 ∧ xr = 27) ∨ (by0 = 0 ∧ xr = 28)) (hR : ∀ i, i < rn → 0 ≤ ρ 28 i ∧ ρ 28 i < 2147483648) (hX : ∀ i, i < mm → 0 ≤ ρ xr i ∧ ρ xr i < 2147483648) (hlt : rn ≤ 2100 ∧ mm ≤ 2100 ∧ rn + mm ≤ 4200) (hrn : ρ 0 32 = rn) (K : ∀ (ρ1 : St) lv, (∀ q, q < rn + mm → 0 ≤ ρ1 24 q ∧ ρ1 24 q < 2147483648) → (∀ q, q ≠ 24 → ρ1 q = ρ q) → nv (ρ1 24) 0 (rn + mm) = nv (ρ 28) 0 rn * nv (ρ xr) 0 mm → X p l e R s m args below meth c D ad 9 Q (rc D ad ρ1) 155 ((3, vi (rn : Int)) :: (2, vi (mm : Int)) :: (0, .ref (ad 0)) :: (1, vi by0) :: lv) []) (n i : Nat) (hn : rn - i < n) (hi : i ≤ rn) (ρ1 : St) (h1 : ∀ q, q < rn + mm → 0 ≤ ρ1 24 q ∧ ρ1 24 q < 2147483648) (h3 : ∀ q, q ≠ 24 → ρ1 q = ρ q) (h5 : nv (ρ1 24) 0 (i + mm) = nv (ρ 28) 0 i * nv (ρ xr) 0 mm) : X p l e R s m args below meth c D ad 9 Q (rc D ad ρ1) 43 [(3, vi (i : Int)), (2, vi (mm : Int)), (0, .ref (ad 0)), (1, vi by0)] [] := by
  induction n generalizing i ρ1 with
  | zero => omega
  | succ n ih =>
  refine x_iload_n C dX6_times_43 rfl rfl ?_
  refine x_aload_n C dX6_times_44 rfl rfl ?_
  refine x_get C (Cn := RX6) (T := TX6) (N := 33) (ci := 6) 32 dX6_times_45 m_w_6 m_f_RX6_200 rfl (by decide) rfl rfl ?_
  rw [h3 0 (by decide), hrn]
  refine x_icmp_ge (tgt := 155) C dX6_times_48 (by decide) (by omega) (by omega) (fun c_48 => ?_) (fun c_48 => ?_)
  · obtain rfl : i = rn := by omega
    exact K ρ1 [] h1 h3 h5
  · refine x_lconst0 C dX6_times_51 ?_
    refine x_lstore C (lv' := [(4, _), (3, _), (2, _), (0, _), (1, _)]) dX6_times_52 (by decide) rfl ?_
    refine x_iconst C dX6_times_54 ?_
    refine x_istore C (lv' := [(6, _), (4, _), (3, _), (2, _), (0, _), (1, _)]) dX6_times_55 (by decide) rfl ?_
    refine rp_timesI C ρ rn mm xr by0 hx hR hX hlt i (by omega) (ρ1 24) ?_ (mm + 1) 0 (by omega) (by omega) ρ1 0 h1 (fun q hq => rfl) h3 (by omega) (by rw [nv_0, nv_0, Int.zero_mul, Int.mul_zero])
    intro ρ2 cy kk lv g1 g2 g3 g4 g5
    refine X.sub [0, 1, 2, 3, 4, 5] rfl ?_
    refine x_aload_n C dX6_times_138 rfl rfl ?_
    refine x_get C (Cn := RX6) (T := TX6) (N := 33) (ci := 6) 24 dX6_times_139 m_w_6 m_f_RX6_66 rfl (by decide) rfl rfl ?_
    refine x_iload_n C dX6_times_142 rfl rfl ?_
    refine x_iload_n C dX6_times_143 rfl rfl ?_
    refine x_iadd C dX6_times_144 ?_
    refine x_lload C dX6_times_145 rfl ?_
    refine x_l2i C dX6_times_147 ?_
    refine r_ast C dX6_times_148 (fun _ => rfl) (by omega) (by omega) ?_
    refine x_iinc C (lv' := [(3, _), (6, _), (4, _), (2, _), (0, _), (1, _)]) dX6_times_149 rfl (by decide) rfl ?_
    refine x_goto (tgt := 43) C dX6_times_152 (by decide) ?_
    refine X.sub [0, 3, 4, 5] rfl ?_
    rw [show (i : Int) + 1 = ((i + 1 : Nat) : Int) by omega]
    have him : ((i : Int) + (mm : Int)).toNat = i + mm := by omega
    refine ih (i + 1) (by omega) (by omega) _ ?_ (fun q hq => by rw [up_n hq]; exact g3 q hq) ?_
    · intro q hq
      rw [up_s, him]
      by_cases c : q = i + mm
      · rw [c, zup_s]; exact g4
      · rw [zup_n c]; exact g1 q hq
    · rw [up_s, him]
      exact tm_round h5 g5 (fun q hq => g2 q (by omega))
set_option maxHeartbeats 4000000 in
set_option maxRecDepth 100000 in
theorem rp_timesZ {p : Program} {l : Launch} {e : Env} {R : Room} {s : State} {m : MethodId} {args : Array Value} {below : List Frame} {meth : Method} {c : Code} {D : va_G} {ad : Nat → Nat} {Q : State → Prop} (C : Fx p s m args meth c D ad cX6_times 9 none yX6_times.cls tb) (ρ : St) (rn mm : Nat) (by0 : Int) (hlt : rn + mm ≤ 4200) (hrn : ρ 0 32 = rn) (K : ∀ (ρ1 : St) (i : Int), (∀ q, q < rn + mm → ρ1 24 q = 0) → (∀ q, q ≠ 24 → ρ1 q = ρ q) → X p l e R s m args below meth c D ad 9 Q (rc D ad ρ1) 41 [(3, vi i), (2, vi (mm : Int)), (0, .ref (ad 0)), (1, vi by0)] []) (n i : Nat) (hn : rn + mm - i < n) (hi : i ≤ rn + mm) (ρ1 : St) (h1 : ∀ q, q < i → ρ1 24 q = 0) (h3 : ∀ q, q ≠ 24 → ρ1 q = ρ q) : X p l e R s m args below meth c D ad 9 Q (rc D ad ρ1) 18 [(3, vi (i : Int)), (2, vi (mm : Int)), (0, .ref (ad 0)), (1, vi by0)] [] := by
  induction n generalizing i ρ1 with
  | zero => omega
  | succ n ih =>
  refine x_iload_n C dX6_times_18 rfl rfl ?_
  refine x_aload_n C dX6_times_19 rfl rfl ?_
  refine x_get C (Cn := RX6) (T := TX6) (N := 33) (ci := 6) 32 dX6_times_20 m_w_6 m_f_RX6_200 rfl (by decide) rfl rfl ?_
  rw [h3 0 (by decide), hrn]
  refine x_iload_n C dX6_times_23 rfl rfl ?_
  refine x_iadd C dX6_times_24 ?_
  refine x_icmp_ge (tgt := 41) C dX6_times_25 (by decide) (by omega) (by omega) (fun c_25 => ?_) (fun c_25 => ?_)
  · obtain rfl : i = rn + mm := by omega
    exact K ρ1 _ h1 h3
  · refine x_aload_n C dX6_times_28 rfl rfl ?_
    refine x_get C (Cn := RX6) (T := TX6) (N := 33) (ci := 6) 24 dX6_times_29 m_w_6 m_f_RX6_66 rfl (by decide) rfl rfl ?_
    refine x_iload_n C dX6_times_32 rfl rfl ?_
    refine x_iconst C dX6_times_33 ?_
    refine r_ast C dX6_times_34 (fun _ => rfl) (by omega) (by omega) ?_
    refine x_iinc C (lv' := [(3, _), (2, _), (0, _), (1, _)]) dX6_times_35 rfl (by decide) rfl ?_
    refine x_goto (tgt := 18) C dX6_times_38 (by decide) ?_
    rw [show (i : Int) + 1 = ((i + 1 : Nat) : Int) by omega]
    refine ih (i + 1) (by omega) (by omega) _ ?_ (fun q hq => by rw [up_n hq]; exact h3 q hq)
    intro q hq
    rw [up_s, Int.toNat_natCast]
    by_cases c : q = i
    · rw [c, zup_s]
    · rw [zup_n c]; exact h1 q (by omega)
theorem up_up (ρ : St) (n k : Nat) (x y : Int) : up (up ρ n k x) n k y = up ρ n k y := by
  funext q
  by_cases c : q = n
  · subst c; rw [up_s, up_s, up_s]; funext j
    by_cases c2 : j = k
    · rw [c2, zup_s, zup_s]
    · rw [zup_n c2, zup_n c2, zup_n c2]
  · rw [up_n c, up_n c, up_n c]
set_option maxHeartbeats 4000000 in
set_option maxRecDepth 100000 in
theorem rp_timesT {p : Program} {l : Launch} {e : Env} {R : Room} {s : State} {m : MethodId} {args : Array Value} {below : List Frame} {meth : Method} {c : Code} {D : va_G} {ad : Nat → Nat} {Q : State → Prop} (C : Fx p s m args meth c D ad cX6_times 9 none yX6_times.cls tb) (ρ : St) (N0 : Nat) (hN : N0 ≤ 4200) (hL : ∀ q, q < N0 → 0 ≤ ρ 24 q ∧ ρ 24 q < 2147483648) (lv : List (Nat × Value)) (l0 : lk 0 lv = some (.ref (ad 0))) (K : ∀ un : Nat, un ≤ N0 → (∀ q, un ≤ q → q < N0 → ρ 24 q = 0) → (0 < un → ρ 24 (un - 1) ≠ 0) → X p l e R s m args below meth c D ad 9 Q (rc D ad (up ρ 0 29 (un : Int))) 199 lv []) (n i : Nat) (hn : i < n) (hi : i ≤ N0) (hz : ∀ q, i ≤ q → q < N0 → ρ 24 q = 0) (ρ1 : St) (e1 : ρ1 = up ρ 0 29 (i : Int)) : X p l e R s m args below meth c D ad 9 Q (rc D ad ρ1) 165 lv [] := by
  induction n generalizing i ρ1 with
  | zero => omega
  | succ n ih =>
  refine x_aload_n C dX6_times_165 rfl l0 ?_
  refine x_get C (Cn := RX6) (T := TX6) (N := 33) (ci := 6) 29 dX6_times_166 m_w_6 m_f_RX6_179 rfl (by decide) rfl rfl ?_
  have f29 : ρ1 0 29 = (i : Int) := by rw [e1, up_s, zup_s]
  have f24 : ρ1 24 = ρ 24 := by rw [e1, up_n (by decide)]
  rw [f29]
  refine x_if_le (tgt := 199) C dX6_times_169 (by decide) (by omega) (fun c_169 => ?_) (fun c_169 => ?_)
  · obtain rfl : i = 0 := by omega
    rw [e1]
    exact K 0 (by omega) hz (fun q => by omega)
  · obtain ⟨i, rfl⟩ : ∃ i1, i = i1 + 1 := ⟨i - 1, by omega⟩
    have hl := hL i (by omega)
    refine x_aload_n C dX6_times_172 rfl l0 ?_
    refine x_get C (Cn := RX6) (T := TX6) (N := 33) (ci := 6) 24 dX6_times_173 m_w_6 m_f_RX6_66 rfl (by decide) rfl rfl ?_
    refine x_aload_n C dX6_times_176 rfl l0 ?_
    refine x_get C (Cn := RX6) (T := TX6) (N := 33) (ci := 6) 29 dX6_times_177 m_w_6 m_f_RX6_179 rfl (by decide) rfl rfl ?_
    rw [f29]
    refine x_iconst C dX6_times_180 ?_
    refine x_isub C dX6_times_181 ?_
    refine x_iald C dX6_times_182 rfl (by omega) (by omega) ?_
    rw [show (((i + 1 : Nat) : Int) - 1).toNat = i by omega, f24]
    refine x_if_ne (tgt := 199) C dX6_times_183 (by decide) (by omega) (fun c_183 => ?_) (fun c_183 => ?_)
    · rw [e1]
      exact K (i + 1) hi hz (fun _ => by rw [Nat.add_sub_cancel]; exact c_183)
    · refine x_aload_n C dX6_times_186 rfl l0 ?_
      refine x_dup C dX6_times_187 rfl ?_
      refine x_get C (Cn := RX6) (T := TX6) (N := 33) (ci := 6) 29 dX6_times_188 m_w_6 m_f_RX6_179 rfl (by decide) rfl rfl ?_
      refine x_iconst C dX6_times_191 ?_
      refine x_isub C dX6_times_192 ?_
      refine r_put C 29 (by decide) (by decide) dX6_times_193 m_f_RX6_179 rfl (by decide +kernel) ?_
      refine x_goto (tgt := 165) C dX6_times_196 (by decide) ?_
      rw [f29, show ((i + 1 : Nat) : Int) - 1 = (i : Int) by omega]
      exact ih i (by omega) (by omega) (fun q h1 h2 => if c : q = i then by rw [c]; omega else hz q (by omega) h2) _ (by rw [e1, up_up])
set_option maxHeartbeats 4000000 in
set_option maxRecDepth 100000 in
theorem r_times {l : Launch} {D : va_G} {ad : Nat → Nat} (ρ : St) (rn mm xr : Nat) (by0 : Int) (hx : (by0 = 1 ∧ xr = 27 ∧ ρ 0 31 = mm) ∨ (by0 = 0 ∧ xr = 28 ∧ rn = mm)) (hrn : ρ 0 32 = rn) (hlt : rn ≤ 2100 ∧ mm ≤ 2100 ∧ rn + mm ≤ 4200) (hR : ∀ i, i < rn → 0 ≤ ρ 28 i ∧ ρ 28 i < 2147483648) (hX : ∀ i, i < mm → 0 ≤ ρ xr i ∧ ρ xr i < 2147483648) : Rt l D ad yX6_times (Cond.code yX6_times cX6_times 9 none :: tb) 0 0 [.ref (ad 0), vi by0] ρ (fun v ρ' => v = none ∧ ∃ un : Nat, un ≤ rn + mm ∧ (∀ q, q ≠ 24 → q ≠ 0 → ρ' q = ρ q) ∧ ρ' 0 = zup (ρ 0) 29 (un : Int) ∧ NRM (ρ' 24) un ∧ nv (ρ' 24) 0 un = nv (ρ 28) 0 rn * nv (ρ xr) 0 mm) := by
  refine ct_of (by decide) rfl (Nat.le_of_ble_eq_true rfl) ?_
  intro p e s m below meth c C
  change X _ _ _ _ _ _ _ _ _ _ _ _ _ _ _ _ [(0, .ref (ad 0)), (1, vi by0)] _
  refine x_iload_n C dX6_times_0 rfl rfl ?_
  refine x_if_eq (tgt := 11) C dX6_times_1 (by decide) (by omega) (fun c_1 => ?_) (fun c_1 => ?_)
  · refine x_aload_n C dX6_times_11 rfl rfl ?_
    refine x_get C (Cn := RX6) (T := TX6) (N := 33) (ci := 6) 32 dX6_times_12 m_w_6 m_f_RX6_200 rfl (by decide) rfl rfl ?_
    rw [show ρ 0 32 = mm by omega]
    refine x_istore_n C (lv' := [(2, _), (0, _), (1, _)]) dX6_times_15 rfl (by decide) rfl ?_
    refine x_iconst C dX6_times_16 ?_
    refine x_istore_n C (lv' := [(3, _), (2, _), (0, _), (1, _)]) dX6_times_17 rfl (by decide) rfl ?_
    refine rp_timesZ C ρ rn mm by0 hlt.2.2 hrn ?_ (rn + mm + 1) 0 (by omega) (by omega) ρ (fun q hq => by omega) (fun q hq => rfl)
    intro ρ1 i e1 e2
    refine x_iconst C dX6_times_41 ?_
    refine x_istore_n C (lv' := [(3, _), (2, _), (0, _), (1, _)]) dX6_times_42 rfl (by decide) rfl ?_
    refine rp_timesO C ρ rn mm xr by0 (by omega) hR hX hlt hrn ?_ (rn + 1) 0 (by omega) (by omega) ρ1 (fun q hq => by rw [e1 q hq]; decide) e2 (by rw [nv_0, nv_zero (fun i hi => e1 _ (by omega))]; omega)
    intro ρ2 lv f1 f2 f3
    refine X.sub [0, 1, 2, 3] rfl ?_
    refine x_aload_n C dX6_times_155 rfl rfl ?_
    refine x_aload_n C dX6_times_156 rfl rfl ?_
    refine x_get C (Cn := RX6) (T := TX6) (N := 33) (ci := 6) 32 dX6_times_157 m_w_6 m_f_RX6_200 rfl (by decide) rfl rfl ?_
    rw [f2 0 (by decide), hrn]
    refine x_iload_n C dX6_times_160 rfl rfl ?_
    refine x_iadd C dX6_times_161 ?_
    refine r_put C 29 (by decide) (by decide) dX6_times_162 m_f_RX6_179 rfl (by decide +kernel) ?_
    rw [show (rn : Int) + (mm : Int) = ((rn + mm : Nat) : Int) by omega]
    refine rp_timesT C ρ2 (rn + mm) hlt.2.2 f1 _ rfl ?_ (rn + mm + 1) (rn + mm) (by omega) (by omega) (fun q h1 h2 => by omega) _ rfl
    intro un hu hz ht
    refine x_vret C dX6_times_199 ⟨_, rfl, rfl, un, hu, fun q h24 h0 => by rw [up_n h0]; exact f2 q h24, by rw [up_s, f2 0 (by decide)], ?_, ?_⟩
    · rw [up_n (by decide)]; exact ⟨fun i hi => f1 i (by omega), ht⟩
    · rw [up_n (by decide), ← f3, nv_top (f := ρ2 24) (a := 0) hu (fun i h1 h2 => by rw [Nat.zero_add]; exact hz i h1 h2)]
  · refine x_aload_n C dX6_times_4 rfl rfl ?_
    refine x_get C (Cn := RX6) (T := TX6) (N := 33) (ci := 6) 31 dX6_times_5 m_w_6 m_f_RX6_197 rfl (by decide) rfl rfl ?_
    rw [show ρ 0 31 = mm by omega]
    refine x_goto (tgt := 15) C dX6_times_8 (by decide) ?_
    refine x_istore_n C (lv' := [(2, _), (0, _), (1, _)]) dX6_times_15 rfl (by decide) rfl ?_
    refine x_iconst C dX6_times_16 ?_
    refine x_istore_n C (lv' := [(3, _), (2, _), (0, _), (1, _)]) dX6_times_17 rfl (by decide) rfl ?_
    refine rp_timesZ C ρ rn mm by0 hlt.2.2 hrn ?_ (rn + mm + 1) 0 (by omega) (by omega) ρ (fun q hq => by omega) (fun q hq => rfl)
    intro ρ1 i e1 e2
    refine x_iconst C dX6_times_41 ?_
    refine x_istore_n C (lv' := [(3, _), (2, _), (0, _), (1, _)]) dX6_times_42 rfl (by decide) rfl ?_
    refine rp_timesO C ρ rn mm xr by0 (by omega) hR hX hlt hrn ?_ (rn + 1) 0 (by omega) (by omega) ρ1 (fun q hq => by rw [e1 q hq]; decide) e2 (by rw [nv_0, nv_zero (fun i hi => e1 _ (by omega))]; omega)
    intro ρ2 lv f1 f2 f3
    refine X.sub [0, 1, 2, 3] rfl ?_
    refine x_aload_n C dX6_times_155 rfl rfl ?_
    refine x_aload_n C dX6_times_156 rfl rfl ?_
    refine x_get C (Cn := RX6) (T := TX6) (N := 33) (ci := 6) 32 dX6_times_157 m_w_6 m_f_RX6_200 rfl (by decide) rfl rfl ?_
    rw [f2 0 (by decide), hrn]
    refine x_iload_n C dX6_times_160 rfl rfl ?_
    refine x_iadd C dX6_times_161 ?_
    refine r_put C 29 (by decide) (by decide) dX6_times_162 m_f_RX6_179 rfl (by decide +kernel) ?_
    rw [show (rn : Int) + (mm : Int) = ((rn + mm : Nat) : Int) by omega]
    refine rp_timesT C ρ2 (rn + mm) hlt.2.2 f1 _ rfl ?_ (rn + mm + 1) (rn + mm) (by omega) (by omega) (fun q h1 h2 => by omega) _ rfl
    intro un hu hz ht
    refine x_vret C dX6_times_199 ⟨_, rfl, rfl, un, hu, fun q h24 h0 => by rw [up_n h0]; exact f2 q h24, by rw [up_s, f2 0 (by decide)], ?_, ?_⟩
    · rw [up_n (by decide)]; exact ⟨fun i hi => f1 i (by omega), ht⟩
    · rw [up_n (by decide), ← f3, nv_top (f := ρ2 24) (a := 0) hu (fun i h1 h2 => by rw [Nat.zero_add]; exact hz i h1 h2)]
