/-! CONSTRUCTORS: words, the memory alone, the small ones -/
theorem m_oi : (Jvm.Cond.instanceMethod ({ cls := "java/lang/Object", name := "<init>", desc := "()V" } : Jvm.MethodName)) ∈ tb := tb_1 17 rfl rfl
theorem m_oc : Cond.code objectInit ⟨#[0xb1]⟩ 1 none ∈ tb := tb_1 18 rfl rfl
theorem m_aI : (Jvm.Cond.arrayClass Jvm.ClassFile.FieldType.int) ∈ tb := tb_1 61 rfl rfl
theorem m_aZ : (Jvm.Cond.arrayClass Jvm.ClassFile.FieldType.boolean) ∈ tb := tb_3 132 rfl rfl
theorem m_aL : (Jvm.Cond.arrayClass Jvm.ClassFile.FieldType.long) ∈ tb := tb_3 133 rfl rfl
theorem m_cl_RL_7 : (Jvm.Cond.classLink "LimbKernelLaw" (7 : Nat) "LimbKernel") ∈ tb := tb_1 11 rfl rfl
theorem m_in_RL_7 : (Jvm.Cond.instantiable "LimbKernel" (9 : Nat)) ∈ tb := tb_1 12 rfl rfl
theorem m_cl_RX5_7 : (Jvm.Cond.classLink "LimbKernel" (7 : Nat) "LimbKernel$Memory") ∈ tb := tb_1 19 rfl rfl
theorem m_in_RX5_7 : (Jvm.Cond.instantiable "LimbKernel$Memory" (4 : Nat)) ∈ tb := tb_1 20 rfl rfl
theorem m_cl_RX5_22 : (Jvm.Cond.classLink "LimbKernel" (22 : Nat) "LimbKernel$Reckoner") ∈ tb := tb_1 62 rfl rfl
theorem m_in_RX5_22 : (Jvm.Cond.instantiable "LimbKernel$Reckoner" (6 : Nat)) ∈ tb := tb_1 63 rfl rfl
theorem m_cl_RX5_35 : (Jvm.Cond.classLink "LimbKernel" (35 : Nat) "LimbKernel$Job") ∈ tb := tb_1 87 rfl rfl
theorem m_in_RX5_35 : (Jvm.Cond.instantiable "LimbKernel$Job" (11 : Nat)) ∈ tb := tb_1 89 rfl rfl
theorem m_cl_RX5_42 : (Jvm.Cond.classLink "LimbKernel" (42 : Nat) "LimbKernel$Numeral") ∈ tb := tb_1 136 rfl rfl
theorem m_in_RX5_42 : (Jvm.Cond.instantiable "LimbKernel$Numeral" (6 : Nat)) ∈ tb := tb_1 138 rfl rfl
theorem m_cl_RX5_49 : (Jvm.Cond.classLink "LimbKernel" (49 : Nat) "LimbKernel$Queue") ∈ tb := tb_1 165 rfl rfl
theorem m_in_RX5_49 : (Jvm.Cond.instantiable "LimbKernel$Queue" (3 : Nat)) ∈ tb := tb_1 166 rfl rfl
theorem m_cl_RL_18 : (Jvm.Cond.classLink "LimbKernelLaw" (18 : Nat) "LimbKernelModel") ∈ tb := tb_3 19 rfl rfl
theorem m_in_RL_18 : (Jvm.Cond.instantiable "LimbKernelModel" (33 : Nat)) ∈ tb := tb_3 20 rfl rfl
/-- the memory's cells alone -/
def mk (D : va_G) (ad : Nat → Nat) (g : Nat × Nat × Nat × Nat) (σ : St) : HM := fun n => match n with
  | 1 => some (.inr (1, [vi (g.1 : Int), .ref (ad 2), .ref (ad 3), .ref (ad 4)]))
  | 2 => some (.inl (D.1 10, g.2.1, .inl (fun j => iI (σ 2 j))))
  | 3 => some (.inl (D.1 10, g.1 + 1, .inl (fun j => iI (σ 3 j))))
  | 4 => some (.inl (D.1 10, g.2.1, .inl (fun j => iI (σ 4 j))))
  | _ => none
theorem mk_ext {D : va_G} {ad : Nat → Nat} {g : Nat × Nat × Nat × Nat} {σ σ' : St} {n : Nat} (h : σ' n = σ n) : mk D ad g σ' n = mk D ad g σ n := by
  unfold mk
  split <;> simp_all
theorem mset {D : va_G} {ad : Nat → Nat} {g : Nat × Nat × Nat × Nat} {σ σ' : St} {n : Nat} {x : va_E} (h1 : ∀ q, q ≠ n → σ' q = σ q) (h2 : mk D ad g σ' n = some x) : hset (mk D ad g σ) n x = mk D ad g σ' := by
  funext q
  by_cases hq : q = n
  · subst hq; rw [hset_s, h2]
  · rw [hset_n hq, mk_ext (h1 q hq)]
def Mt (l : Launch) (D : va_G) (ad : Nat → Nat) (g : Nat × Nat × Nat × Nat) (y : MethodName) (ws : List Cond) (fr lo : Nat) (av : List Value) (σ : St) (post : Option Value → St → Prop) : Prop :=
  Ct l y ws fr lo D ad av (mk D ad g σ) (fun v h1 => ∃ σ' : St, h1 = mk D ad g σ' ∧ post v σ')
theorem m_ast {p : Program} {l : Launch} {e : Env} {R : Room} {s : State} {m : MethodId} {args : Array Value} {below : List Frame} {meth : Method} {c : Code} {D : va_G} {ad : Nat → Nat} {cc : ByteArray} {nL : Nat} {ret : Option FieldType} {own : String} {Q : State → Prop} {pc : Nat} {lv : List (Nat × Value)} {st : List Value} {g : Nat × Nat × Nat × Nat} {σ : St} (C : Fx p s m args meth c D ad cc nL ret own tb) {n N : Nat} {z w : Int} (hd : decode cc pc = .ok (.iastore, 1)) (he : ∀ σ : St, mk D ad g σ n = some (.inl (D.1 10, N, .inl (fun j => iI (σ n j))))) (hz : 0 ≤ z ∧ z < N) (hN : N ≤ 2147483647) (k : X p l e R s m args below meth c D ad nL Q (mk D ad g (up σ n z.toNat w)) (pc + 1) lv st) : X p l e R s m args below meth c D ad nL Q (mk D ad g σ) pc lv (vi w :: vi z :: .ref (ad n) :: st) :=
  x_iast C hd (he σ) hz hN (X.eqh (mset (σ' := up σ n z.toNat w) (fun q hq => up_n hq) (by rw [he, up_s])) k)
set_option maxHeartbeats 4000000 in
set_option maxRecDepth 100000 in
theorem c_addFreeM {l : Launch} {D : va_G} {ad : Nat → Nat} {g : Nat × Nat × Nat × Nat} (hg : 3 ≤ g.1 ∧ g.1 ≤ 11 ∧ 8 ≤ g.2.1 ∧ g.2.1 ≤ 2048 ∧ 1 ≤ g.2.2.1 ∧ g.2.2.1 ≤ 24 ∧ 1 ≤ g.2.2.2 ∧ g.2.2.2 ≤ 12) (σ : St) (a k : Int) (ha : 0 ≤ a ∧ a < g.2.1) (hk : 0 ≤ k ∧ k ≤ g.1) : Mt l D ad g yX1_addFree (Cond.code yX1_addFree cX1_addFree 3 none :: tb) 0 0 [.ref (ad 1), vi a, vi k] σ (fun v σ' => v = none ∧ σ' = up (up σ 4 a.toNat k) 3 k.toNat (σ 3 k.toNat + 1)) := by
  refine ct_of (by decide) rfl (Nat.le_of_ble_eq_true rfl) ?_
  intro p e s m below meth c C
  change X _ _ _ _ _ _ _ _ _ _ _ _ _ _ _ _ [(0, .ref (ad 1)), (1, vi a), (2, vi k)] _
  refine x_aload_n C dX1_addFree_0 rfl rfl ?_
  refine x_get C (Cn := RX1) (T := TX1) (N := 4) (ci := 1) 3 dX1_addFree_1 m_w_1 m_f_RX1_22 rfl (by decide) rfl rfl ?_
  refine x_iload_n C dX1_addFree_4 rfl rfl ?_
  refine x_iload_n C dX1_addFree_5 rfl rfl ?_
  refine m_ast C dX1_addFree_6 (fun _ => rfl) (by omega) (by omega) ?_
  refine x_aload_n C dX1_addFree_7 rfl rfl ?_
  refine x_get C (Cn := RX1) (T := TX1) (N := 4) (ci := 1) 2 dX1_addFree_8 m_w_1 m_f_RX1_19 rfl (by decide) rfl rfl ?_
  refine x_iload_n C dX1_addFree_11 rfl rfl ?_
  refine x_dup2 C dX1_addFree_12 rfl rfl ?_
  refine x_iald C dX1_addFree_13 rfl (by omega) (by omega) ?_
  refine x_iconst C dX1_addFree_14 ?_
  refine x_iadd C dX1_addFree_15 ?_
  refine m_ast C dX1_addFree_16 (fun _ => rfl) (by omega) (by omega) ?_
  exact x_vret C dX1_addFree_17 ⟨_, rfl, rfl, rfl⟩
set_option maxHeartbeats 4000000 in
set_option maxRecDepth 100000 in
theorem lp_fillM {p : Program} {l : Launch} {e : Env} {R : Room} {s : State} {m : MethodId} {args : Array Value} {below : List Frame} {meth : Method} {c : Code} {D : va_G} {ad : Nat → Nat} {g : Nat × Nat × Nat × Nat} {Q : State → Prop} (C : Fx p s m args meth c D ad cJ7_fill_53178 4 none yJ7_fill_53178.cls tb) (hg : 3 ≤ g.1 ∧ g.1 ≤ 11 ∧ 8 ≤ g.2.1 ∧ g.2.1 ≤ 2048 ∧ 1 ≤ g.2.2.1 ∧ g.2.2.1 ≤ 24 ∧ 1 ≤ g.2.2.2 ∧ g.2.2.2 ≤ 12) (σ : St) (na N : Nat) (hN : N ≤ 2048) (he : ∀ σ : St, mk D ad g σ na = some (.inl (D.1 10, N, .inl (fun j => iI (σ na j))))) (z : Int) (K : ∀ lv, X p l e R s m args below meth c D ad 4 Q (mk D ad g (upr σ na (fl (σ na) 0 N z))) 20 lv []) (n : Nat) (i : Nat) (hi : i ≤ N) (hn : N - i < n) : X p l e R s m args below meth c D ad 4 Q (mk D ad g (upr σ na (fl (σ na) 0 i z))) 5 [(2, vi (i : Int)), (3, vi (N : Int)), (0, .ref (ad na)), (1, vi z)] [] := by
  induction n generalizing i with
  | zero => omega
  | succ n ih =>
  refine x_iload_n C dJ7_fill_53178_5 rfl rfl ?_
  refine x_iload_n C dJ7_fill_53178_6 rfl rfl ?_
  refine x_icmp_ge (tgt := 20) C dJ7_fill_53178_7 (by decide) (by omega) (by omega) (fun c_7 => ?_) (fun c_7 => ?_)
  · rw [show i = N by omega]
    exact K _
  · refine x_aload_n C dJ7_fill_53178_10 rfl rfl ?_
    refine x_iload_n C dJ7_fill_53178_11 rfl rfl ?_
    refine x_iload_n C dJ7_fill_53178_12 rfl rfl ?_
    refine m_ast C dJ7_fill_53178_13 he (by omega) (by omega) ?_
    refine x_iinc C (lv' := [(2, _), (3, _), (0, _), (1, _)]) dJ7_fill_53178_14 rfl (by decide) rfl ?_
    refine x_goto (tgt := 5) C dJ7_fill_53178_17 (by decide) ?_
    refine X.eqh (by rw [show ((i : Int)).toNat = i by omega, fl_step _ _ _ _ _ (Nat.zero_le i)]) ?_
    rw [show (i : Int) + 1 = ((i + 1 : Nat) : Int) by omega]
    exact ih (i + 1) (by omega) (by omega)
set_option maxHeartbeats 4000000 in
set_option maxRecDepth 100000 in
theorem c_fillM {l : Launch} {D : va_G} {ad : Nat → Nat} {g : Nat × Nat × Nat × Nat} (hg : 3 ≤ g.1 ∧ g.1 ≤ 11 ∧ 8 ≤ g.2.1 ∧ g.2.1 ≤ 2048 ∧ 1 ≤ g.2.2.1 ∧ g.2.2.1 ≤ 24 ∧ 1 ≤ g.2.2.2 ∧ g.2.2.2 ≤ 12) (σ : St) (na N : Nat) (hN : N ≤ 2048) (he : ∀ σ : St, mk D ad g σ na = some (.inl (D.1 10, N, .inl (fun j => iI (σ na j))))) (z : Int) : Mt l D ad g yJ7_fill_53178 (Cond.code yJ7_fill_53178 cJ7_fill_53178 4 none :: tb) 0 0 [.ref (ad na), vi z] σ (fun v σ' => v = none ∧ σ' = upr σ na (fl (σ na) 0 N z)) := by
  refine ct_of (by decide) rfl (Nat.le_of_ble_eq_true rfl) ?_
  intro p e s m below meth c C
  change X _ _ _ _ _ _ _ _ _ _ _ _ _ _ _ _ [(0, .ref (ad na)), (1, vi z)] _
  refine x_iconst C dJ7_fill_53178_0 ?_
  refine x_istore_n C (lv' := [(2, _), (0, _), (1, _)]) dJ7_fill_53178_1 rfl (by decide) rfl ?_
  refine x_aload_n C dJ7_fill_53178_2 rfl rfl ?_
  refine x_alen C 0 dJ7_fill_53178_3 (he σ) rfl ?_
  refine x_istore_n C (lv' := [(3, _), (2, _), (0, _), (1, _)]) dJ7_fill_53178_4 rfl (by decide) rfl ?_
  refine X.sub [1, 0, 2, 3] rfl ?_
  refine X.eqh (congrArg (mk D ad g) (fl_0 σ na 0 z).symm) ?_
  refine (lp_fillM C hg σ na N hN he z ?_ (N + 1) 0 (by omega) (by omega))
  intro lv
  exact x_vret C dJ7_fill_53178_20 ⟨_, rfl, rfl, rfl⟩
set_option maxHeartbeats 4000000 in
set_option maxRecDepth 100000 in
theorem c_memClearM {l : Launch} {D : va_G} {ad : Nat → Nat} {g : Nat × Nat × Nat × Nat} (hg : 3 ≤ g.1 ∧ g.1 ≤ 11 ∧ 8 ≤ g.2.1 ∧ g.2.1 ≤ 2048 ∧ 1 ≤ g.2.2.1 ∧ g.2.2.1 ≤ 24 ∧ 1 ≤ g.2.2.2 ∧ g.2.2.2 ≤ 12) (σ : St) : Mt l D ad g yX1_clear (Cond.code yX1_clear cX1_clear 1 none :: tb) 1 40 [.ref (ad 1)] σ (fun v σ' => v = none ∧ (∀ q, q ≠ 3 → q ≠ 4 → σ' q = σ q) ∧ (∀ a, a < g.2.1 → σ' 4 a = if a = 0 then (g.1 : Int) else -1) ∧ ∀ k, k ≤ g.1 → σ' 3 k = if k = g.1 then 1 else 0) := by
  refine ct_of (by decide) rfl (Nat.le_of_ble_eq_true rfl) ?_
  intro p e s m below meth c C
  change X _ _ _ _ _ _ _ _ _ _ _ _ _ _ _ _ [(0, .ref (ad 1))] _
  refine x_aload_n C dX1_clear_0 rfl rfl ?_
  refine x_get C (Cn := RX1) (T := TX1) (N := 4) (ci := 1) 3 dX1_clear_1 m_w_1 m_f_RX1_22 rfl (by decide) rfl rfl ?_
  refine x_iconst C dX1_clear_4 ?_
  refine x_callS C (nn := 2) (c_fillM hg σ 4 g.2.1 (by omega) (fun _ => rfl) (-1)) g_RX1_28 rfl (by decide +kernel) ⟨by first | decide | omega, by first | decide | omega⟩ rfl rfl (Nat.le_of_ble_eq_true rfl) dX1_clear_5 (fun v h1 hp => ?_)
  obtain ⟨σ1, rfl, rfl, rfl⟩ := hp
  refine x_aload_n C dX1_clear_8 rfl rfl ?_
  refine x_get C (Cn := RX1) (T := TX1) (N := 4) (ci := 1) 2 dX1_clear_9 m_w_1 m_f_RX1_19 rfl (by decide) rfl rfl ?_
  refine x_iconst C dX1_clear_12 ?_
  refine x_callS C (nn := 2) (c_fillM hg _ 3 (g.1 + 1) (by omega) (fun _ => rfl) 0) g_RX1_28 rfl (by decide +kernel) ⟨by first | decide | omega, by first | decide | omega⟩ rfl rfl (Nat.le_of_ble_eq_true rfl) dX1_clear_13 (fun v h1 hp => ?_)
  obtain ⟨σ1, rfl, rfl, rfl⟩ := hp
  refine x_aload_n C dX1_clear_16 rfl rfl ?_
  refine x_iconst C dX1_clear_17 ?_
  refine x_aload_n C dX1_clear_18 rfl rfl ?_
  refine x_get C (Cn := RX1) (T := TX1) (N := 4) (ci := 1) 0 dX1_clear_19 m_w_1 m_f_RX1_9 rfl (by decide) rfl rfl ?_
  refine x_callV C (ci := 1) (nn := 2) (c_addFreeM hg _ 0 (g.1 : Int) (by omega) (by omega)) g_RX1_34 rfl (by decide +kernel) ⟨by first | decide | omega, by first | decide | omega⟩ rfl rfl rfl rfl rfl (Nat.le_of_ble_eq_true rfl) dX1_clear_22 (fun v h1 hp => ?_)
  obtain ⟨σ1, rfl, rfl, rfl⟩ := hp
  exact x_vret C dX1_clear_25 ⟨_, rfl, rfl, fun q h3 h4 => by rw [up_n h3, up_n h4, upr_n h3, upr_n h4], fun a ha => by
      rw [up_n (by decide), up_s, upr_n (by decide), upr_s]
      unfold zup fl
      by_cases c : a = 0
      · simp [c]
      · simp [c, ha], fun k hk => by
      rw [up_s, upr_s]
      unfold zup fl
      by_cases c : k = g.1
      · simp [c]
      · rw [if_neg (by simpa using c), if_neg c, up_n (by decide), upr_s, if_pos (by omega)]⟩
set_option maxHeartbeats 4000000 in
set_option maxRecDepth 100000 in
theorem c_withinG {l : Launch} {D : va_G} {ad : Nat → Nat} (h0 : HM) (a b d : Int) (ha : -2147483648 ≤ a ∧ a < 2147483648) (hb : 0 ≤ b ∧ b < 4096) (hd : 0 ≤ d ∧ d < 4096) : Ct l yX5_within (Cond.code yX5_within cX5_within 3 (some .int) :: tb) 1 40 D ad [vi a, vi b, vi d] h0 (fun v h1 => h1 = h0 ∧ v = some (vi (max b (min d a)))) := by
  refine ct_of (by decide) rfl (Nat.le_of_ble_eq_true rfl) ?_
  intro p e s m below meth c C
  change X _ _ _ _ _ _ _ _ _ _ _ _ _ _ _ _ [(0, vi a), (1, vi b), (2, vi d)] _
  refine x_iload_n C dX5_within_0 rfl rfl ?_
  refine x_iload_n C dX5_within_1 rfl rfl ?_
  refine x_iload_n C dX5_within_2 rfl rfl ?_
  refine x_mmin C dX5_within_3 m_l_RX5_196 (by omega) (by omega) (by decide) (Nat.le_of_ble_eq_true rfl) ?_
  refine x_mmax C dX5_within_6 m_l_RX5_201 (by omega) (by omega) (by decide) (Nat.le_of_ble_eq_true rfl) ?_
  exact x_iret C dX5_within_9 ⟨rfl, rfl⟩
set_option maxHeartbeats 4000000 in
set_option maxRecDepth 100000 in
theorem r_withinG {l : Launch} {D : va_G} {ad : Nat → Nat} (h0 : HM) (a b d : Int) (ha : -2147483648 ≤ a ∧ a < 2147483648) (hb : 0 ≤ b ∧ b < 4096) (hd : 0 ≤ d ∧ d < 4096) (hbd : b ≤ d) : Ct l yX6_within (Cond.code yX6_within cX6_within 3 (some .int) :: tb) 0 0 D ad [vi a, vi b, vi d] h0 (fun v h1 => h1 = h0 ∧ v = some (vi (max b (min d a)))) := by
  refine ct_of (by decide) rfl (Nat.le_of_ble_eq_true rfl) ?_
  intro p e s m below meth c C
  change X _ _ _ _ _ _ _ _ _ _ _ _ _ _ _ _ [(0, vi a), (1, vi b), (2, vi d)] _
  refine x_iload_n C dX6_within_0 rfl rfl ?_
  refine x_iload_n C dX6_within_1 rfl rfl ?_
  refine x_icmp_ge (tgt := 9) C dX6_within_2 (by decide) (by omega) (by omega) (fun c1 => ?_) (fun c1 => ?_)
  · refine x_iload_n C dX6_within_9 rfl rfl ?_
    refine x_iload_n C dX6_within_10 rfl rfl ?_
    refine x_icmp_le (tgt := 18) C dX6_within_11 (by decide) (by omega) (by omega) (fun c2 => ?_) (fun c2 => ?_)
    · refine x_iload_n C dX6_within_18 rfl rfl ?_
      exact x_iret C dX6_within_19 ⟨rfl, by rw [show max b (min d a) = a by omega]⟩
    · refine x_iload_n C dX6_within_14 rfl rfl ?_
      refine x_goto (tgt := 19) C dX6_within_15 (by decide) ?_
      exact x_iret C dX6_within_19 ⟨rfl, by rw [show max b (min d a) = d by omega]⟩
  · refine x_iload_n C dX6_within_5 rfl rfl ?_
    refine x_goto (tgt := 19) C dX6_within_6 (by decide) ?_
    exact x_iret C dX6_within_19 ⟨rfl, by rw [show max b (min d a) = b by omega]⟩
theorem ad_1 (k a sz : Nat) (hk : k < 64) (ha : a < sz) : ∃ ad : Nat → Nat, adK ad k a sz := by
  refine ⟨fun n => if n = k then a else sz + 1000 + n, fun i j hi hj e => ?_, hk, by simp, fun n hn => ?_⟩
  · dsimp only at e
    split at e <;> split at e <;> omega
  · dsimp only
    split <;> omega
theorem ad_9 (a sz : Nat) (ha : a < sz) : ∃ ad : Nat → Nat, adK ad 8 a sz ∧ ad 9 = sz := by
  refine ⟨fun n => if n = 8 then a else if n = 9 then sz else sz + 1000 + n, ⟨fun i j hi hj e => ?_, by decide, by simp, fun n hn => ?_⟩, by simp⟩
  · dsimp only at e
    split at e <;> split at e <;> (try split at e) <;> (try split at e) <;> omega
  · dsimp only
    split
    · omega
    · split <;> omega
theorem ad_4 (a sz : Nat) (ha : a < sz) : ∃ ad : Nat → Nat, adK ad 1 a sz ∧ ad 2 = sz ∧ ad 3 = sz + 1 ∧ ad 4 = sz + 2 := by
  refine ⟨fun n => if n = 1 then a else if 2 ≤ n ∧ n ≤ 4 then sz + (n - 2) else sz + 1000 + n, ⟨fun i j hi hj e => ?_, by decide, by simp, fun n hn => ?_⟩, by simp, by simp, by simp⟩
  · dsimp only at e
    split at e <;> split at e <;> (try split at e) <;> (try split at e) <;> omega
  · dsimp only
    split
    · omega
    · split <;> omega
set_option maxHeartbeats 4000000 in
set_option maxRecDepth 100000 in
theorem n_num {l : Launch} {D : va_G} (a sz : Nat) (ha : a < sz) : Cn l yX2_init (Cond.code yX2_init cX2_init 1 none :: tb) 1 40 0 0 D [.ref a] a sz (.inr (2, [vi 0, vi 0, vi 0, vi 0, vi 0, vi 0])) (fun _ => True) (fun cs => cs 0 = .inr (2, [vi 0, vi 0, vi 0, vi 0, vi 0, vi 0])) := by
  obtain ⟨ad, hk⟩ := ad_1 10 a sz (by decide) ha
  have hk0 := hk
  obtain ⟨-, -, rfl, -⟩ := hk0
  refine cn_of (by decide) rfl rfl (Nat.le_of_ble_eq_true rfl) hk ?_
  intro p e s m below meth c hsz hP C hmi
  change Y _ _ _ _ _ _ _ _ _ _ _ _ _ _ _ _ _ _ [(0, .ref (ad 10))] _
  refine y_aload_n C dX2_init_0 rfl rfl ?_
  refine y_obj C dX2_init_1 m_l_RX2_1 m_oi m_oc (Nat.le_of_ble_eq_true rfl) (Nat.le_of_ble_eq_true rfl) ?_
  exact y_vret C hsz hk dX2_init_4 ⟨fun _ => .inr (2, [vi 0, vi 0, vi 0, vi 0, vi 0, vi 0]), rfl, rfl, fun i hi => absurd hi (Nat.not_lt_zero i)⟩
set_option maxHeartbeats 4000000 in
set_option maxRecDepth 100000 in
theorem n_job {l : Launch} {D : va_G} (a sz : Nat) (ha : a < sz) : Cn l yX0_init (Cond.code yX0_init cX0_init 1 none :: tb) 1 40 0 0 D [.ref a] a sz (.inr (0, [vi 0, vi 0, vi 0, vi 0, vi 0, vi 0, vi 0, vi 0, vi 0, vi 0, vl 0])) (fun _ => True) (fun cs => cs 0 = .inr (0, [vi (-1), vi 0, vi 0, vi 0, vi 0, vi (-1), vi 0, vi 0, vi (-1), vi (-1), vl 0])) := by
  obtain ⟨ad, hk⟩ := ad_1 40 a sz (by decide) ha
  have hk0 := hk
  obtain ⟨-, -, rfl, -⟩ := hk0
  refine cn_of (by decide) rfl rfl (Nat.le_of_ble_eq_true rfl) hk ?_
  intro p e s m below meth c hsz hP C hmi
  change Y _ _ _ _ _ _ _ _ _ _ _ _ _ _ _ _ _ _ [(0, .ref (ad 40))] _
  refine y_aload_n C dX0_init_0 rfl rfl ?_
  refine y_obj C dX0_init_1 m_l_RX0_3 m_oi m_oc (Nat.le_of_ble_eq_true rfl) (Nat.le_of_ble_eq_true rfl) ?_
  refine y_aload_n C dX0_init_4 rfl rfl ?_
  refine y_iconst C dX0_init_5 ?_
  refine y_put C (Cn := RX0) (T := TX0) (N := 11) (ci := 0) (ty := .int) 0 dX0_init_6 m_w_0 m_f_RX0_9 rfl (by decide) tyX0 tyX0_ok nmX0 rfl (by decide +kernel) rfl rfl (Nat.le_of_ble_eq_true rfl) rfl ?_
  refine y_aload_n C dX0_init_9 rfl rfl ?_
  refine y_iconst C dX0_init_10 ?_
  refine y_put C (Cn := RX0) (T := TX0) (N := 11) (ci := 0) (ty := .int) 5 dX0_init_11 m_w_0 m_f_RX0_15 rfl (by decide) tyX0 tyX0_ok nmX0 rfl (by decide +kernel) rfl rfl (Nat.le_of_ble_eq_true rfl) rfl ?_
  refine y_aload_n C dX0_init_14 rfl rfl ?_
  refine y_iconst C dX0_init_15 ?_
  refine y_put C (Cn := RX0) (T := TX0) (N := 11) (ci := 0) (ty := .int) 8 dX0_init_16 m_w_0 m_f_RX0_18 rfl (by decide) tyX0 tyX0_ok nmX0 rfl (by decide +kernel) rfl rfl (Nat.le_of_ble_eq_true rfl) rfl ?_
  refine y_aload_n C dX0_init_19 rfl rfl ?_
  refine y_iconst C dX0_init_20 ?_
  refine y_put C (Cn := RX0) (T := TX0) (N := 11) (ci := 0) (ty := .int) 9 dX0_init_21 m_w_0 m_f_RX0_21 rfl (by decide) tyX0 tyX0_ok nmX0 rfl (by decide +kernel) rfl rfl (Nat.le_of_ble_eq_true rfl) rfl ?_
  exact y_vret C hsz hk dX0_init_24 ⟨fun _ => .inr (0, [vi (-1), vi 0, vi 0, vi 0, vi 0, vi (-1), vi 0, vi 0, vi (-1), vi (-1), vl 0]), rfl, rfl, fun i hi => absurd hi (Nat.not_lt_zero i)⟩
set_option maxHeartbeats 4000000 in
set_option maxRecDepth 100000 in
theorem n_rec {l : Launch} {D : va_G} (a sz b : Nat) (ha : a < sz) : Cn l yX4_init (Cond.code yX4_init cX4_init 2 none :: tb) 1 40 0 0 D [.ref a, .ref b] a sz (.inr (4, [.null, vi 0, vi 0, vi 0, vl 0, vl 0])) (fun _ => True) (fun cs => cs 0 = .inr (4, [.ref b, vi 0, vi 0, vi 0, vl 0, vl 0])) := by
  obtain ⟨ad, hk⟩ := ad_1 5 a sz (by decide) ha
  have hk0 := hk
  obtain ⟨-, -, rfl, -⟩ := hk0
  refine cn_of (by decide) rfl rfl (Nat.le_of_ble_eq_true rfl) hk ?_
  intro p e s m below meth c hsz hP C hmi
  change Y _ _ _ _ _ _ _ _ _ _ _ _ _ _ _ _ _ _ [(0, .ref (ad 5)), (1, .ref b)] _
  refine y_aload_n C dX4_init_0 rfl rfl ?_
  refine y_obj C dX4_init_1 m_l_RX4_3 m_oi m_oc (Nat.le_of_ble_eq_true rfl) (Nat.le_of_ble_eq_true rfl) ?_
  refine y_aload_n C dX4_init_4 rfl rfl ?_
  refine y_aload_n C dX4_init_5 rfl rfl ?_
  refine y_putF C hmi (Cn := RX4) (T := TX4) (N := 6) (ci := 4) (ty := (.array .int)) 0 dX4_init_6 m_w_4 m_f_RX4_9 rfl (by decide) tyX4 tyX4_ok nmX4 rfl rfl (by decide +kernel) rfl rfl (Nat.le_of_ble_eq_true rfl) rfl ?_
  exact y_vret C hsz hk dX4_init_9 ⟨fun _ => .inr (4, [.ref b, vi 0, vi 0, vi 0, vl 0, vl 0]), rfl, rfl, fun i hi => absurd hi (Nat.not_lt_zero i)⟩
set_option maxHeartbeats 4000000 in
set_option maxRecDepth 100000 in
theorem n_queue {l : Launch} {D : va_G} (a sz N : Nat) (ha : a < sz) (hN : N ≤ 12) : Cn l yX3_init (Cond.code yX3_init cX3_init 2 none :: tb) 1 40 1 N D [.ref a, vi (N : Int)] a sz (.inr (3, [.null, vi 0, vi 0])) (fun _ => True) (fun cs => cs 0 = .inr (3, [.ref sz, vi 0, vi 0]) ∧ cs 1 = .inl (D.1 10, N, .inl (fun _ => iI 0))) := by
  obtain ⟨ad, hk, h9⟩ := ad_9 a sz ha
  have hk0 := hk
  obtain ⟨-, -, rfl, -⟩ := hk0
  refine cn_of (by decide) rfl rfl (Nat.le_of_ble_eq_true rfl) hk ?_
  intro p e s m below meth c hsz hP C hmi
  change Y _ _ _ _ _ _ _ _ _ _ _ _ _ _ _ _ _ _ [(0, .ref (ad 8)), (1, vi (N : Int))] _
  refine y_aload_n C dX3_init_0 rfl rfl ?_
  refine y_obj C dX3_init_1 m_l_RX3_3 m_oi m_oc (Nat.le_of_ble_eq_true rfl) (Nat.le_of_ble_eq_true rfl) ?_
  refine y_aload_n C dX3_init_4 rfl rfl ?_
  refine y_iload_n C dX3_init_5 rfl rfl ?_
  refine y_newI C 9 N dX3_init_6 m_aI rfl (by omega) (Nat.le_refl 1) (by show 0 + N ≤ N; omega) (by decide) (by rw [h9]; omega) ?_
  refine y_putF C hmi (Cn := RX3) (T := TX3) (N := 3) (ci := 3) (ty := (.array .int)) 0 dX3_init_8 m_w_3 m_f_RX3_9 rfl (by decide) tyX3 tyX3_ok nmX3 rfl rfl (by decide +kernel) rfl rfl (Nat.le_of_ble_eq_true rfl) rfl ?_
  refine Y.cnt (cn' := 1) (sl' := N) rfl (by omega) ?_
  refine y_vret C hsz hk dX3_init_11 ⟨fun i => if i = 0 then .inr (3, [.ref sz, vi 0, vi 0]) else .inl (D.1 10, N, .inl (fun _ => iI 0)), ⟨rfl, rfl⟩, ?_, fun i hi => ⟨9, ?_, by omega⟩⟩
  · rw [← h9]; rfl
  · rfl
