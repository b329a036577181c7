/-! GIVING and TAKING BACK -/
def gvP (g : Nat × Nat × Nat × Nat) (σ σ' : St) (k : Nat) (r : Int) : Prop := (r = -1 ∧ σ = σ' ∧ ∀ a, a < g.2.1 → ¬ (k : Int) ≤ σ 4 a) ∨ (∃ a d : Nat, r = a ∧ a < g.2.1 ∧ σ 4 a = ((k + d : Nat) : Int) ∧ (∀ b, b < g.2.1 → (k : Int) ≤ σ 4 b → ((k + d : Nat) : Int) ≤ σ 4 b) ∧ (∀ b, b < a → σ 4 b ≠ ((k + d : Nat) : Int)) ∧ σ' 4 = splF (zup (σ 4) a (-1)) a k d ∧ CN g σ' ∧ ∀ q, q ≠ 3 → q ≠ 4 → σ' q = σ q)
theorem pw_lt {a b : Nat} (h : a < b) : 2 ^ a < 2 ^ b := Nat.pow_lt_pow_right (by decide) h
theorem CN.some {g : Nat × Nat × Nat × Nat} {σ : St} (h : CN g σ) (hM : MI g.1 (σ 4)) (hnp : g.2.1 = 2 ^ g.1) {a : Nat} (ha : a < g.2.1) (h0 : 0 ≤ σ 4 a) : σ 4 a ≤ g.1 ∧ 0 < σ 3 (σ 4 a).toNat := by
  have hr := hM.1 a (by omega)
  refine ⟨hr.2, ?_⟩
  rw [h _ (by omega), show (((σ 4 a).toNat : Nat) : Int) = σ 4 a by omega]
  have h1 := cnt_ge (σ 4) (σ 4 a) g.2.1
  rcases Int.lt_or_le 0 (cnt (σ 4) (σ 4 a) g.2.1) with q | q
  · exact q
  · exact absurd rfl (cnt_no (show cnt (σ 4) (σ 4 a) g.2.1 = 0 by omega) ha)
set_option maxHeartbeats 4000000 in
set_option maxRecDepth 100000 in
theorem lp_give {p : Program} {l : Launch} {e : Env} {R : Room} {s : State} {m : MethodId} {args : Array Value} {below : List Frame} {meth : Method} {c : Code} {D : va_G} {ad : Nat → Nat} {g : Nat × Nat × Nat × Nat} {Q : State → Prop} (C : Fx p s m args meth c D ad cX1_give 5 (some .int) yX1_give.cls tb) (hg : 3 ≤ g.1 ∧ g.1 ≤ 11 ∧ 8 ≤ g.2.1 ∧ g.2.1 ≤ 2048 ∧ 1 ≤ g.2.2.1 ∧ g.2.2.1 ≤ 24 ∧ 1 ≤ g.2.2.2 ∧ g.2.2.2 ≤ 12) (hR : 1 ≤ R.frames ∧ 40 ≤ R.locals) (σ : St) (a k : Nat) (F : Nat → Int) (K : ∀ (σ' : St) lv, σ' 4 = F → CN g σ' → (∀ q, q ≠ 3 → q ≠ 4 → σ' q = σ q) → lk 3 lv = some (vi (a : Int)) → X p l e R s m args below meth c D ad 5 Q (kc D ad g σ') 64 lv []) (n : Nat) (dd : Nat) (hdd : dd < n) (z : Int) (hz : z = (k : Int) + dd - 1) (f0 : Int) (hkd : k + dd ≤ g.1) (hb : a + 2 ^ (k + dd) ≤ g.2.1) (σ1 : St) (hF : splF (σ1 4) a k dd = F) (hC : CN g σ1) (hrow : ∀ q, q ≠ 3 → q ≠ 4 → σ1 q = σ q) (hno : ∀ j, j < k + dd → σ1 4 (a + 2 ^ j) = -1) : X p l e R s m args below meth c D ad 5 Q (kc D ad g σ1) 40 [(4, vi z), (3, vi (a : Int)), (2, vi f0), (0, .ref (ad 1)), (1, vi (k : Int))] [] := by
  induction n generalizing dd z σ1 with
  | zero => omega
  | succ n ih =>
  refine x_iload C dX1_give_40 rfl ?_
  refine x_iload_n C dX1_give_42 rfl rfl ?_
  refine x_icmp_lt (tgt := 64) C dX1_give_43 (by decide) (by omega) (by omega) (fun c_43 => ?_) (fun c_43 => ?_)
  · have hd0 : dd = 0 := by omega
    subst hd0
    exact K σ1 _ hF hC hrow rfl
  · obtain ⟨dd, rfl⟩ : ∃ d1, dd = d1 + 1 := ⟨dd - 1, by omega⟩
    obtain rfl : z = ((k + dd : Nat) : Int) := by omega
    have hp := pw_lt (show k + dd < k + (dd + 1) by omega)
    have hlt : a + 2 ^ (k + dd) < g.2.1 := by omega
    refine x_aload_n C dX1_give_46 rfl rfl ?_
    refine x_iload_n C dX1_give_47 rfl rfl ?_
    refine x_iconst C dX1_give_48 ?_
    refine x_iload C dX1_give_49 rfl ?_
    refine x_ishl C dX1_give_51 (by omega) ?_
    refine x_iadd C dX1_give_52 ?_
    refine x_iload C dX1_give_53 rfl ?_
    rw [pw_c, show (a : Int) + ((2 ^ (k + dd) : Nat) : Int) = ((a + 2 ^ (k + dd) : Nat) : Int) by omega]
    refine x_callV C (ci := 1) (nn := 2) (c_addFreeN hg σ1 (a + 2 ^ (k + dd)) (k + dd) hlt (by omega)) g_RX1_34 rfl (by decide +kernel) ⟨by first | decide | omega, by first | decide | omega⟩ rfl rfl rfl rfl rfl (Nat.le_of_ble_eq_true rfl) dX1_give_55 (fun v h1 hp => ?_)
    obtain ⟨σ2, rfl, rfl, rfl⟩ := hp
    refine x_iinc C (lv' := [(4, _), (3, _), (2, _), (0, _), (1, _)]) dX1_give_58 rfl (by decide) rfl ?_
    refine x_goto (tgt := 40) C dX1_give_61 (by decide) ?_
    refine ih dd (by omega) (((k + dd : Nat) : Int) + -1) (by omega) (by omega) (by have := pw_lt (show k + dd < k + (dd + 1) by omega); omega) _ ?_ ?_ ?_ ?_
    · rw [up_n (by decide), up_s]; exact hF
    · exact hC.add hlt (hno _ (by omega))
    · intro q h3 h4; rw [up_n h3, up_n h4]; exact hrow q h3 h4
    · intro j hj
      rw [up_n (by decide), up_s, zup_n (by have := pw_lt hj; omega)]
      exact hno j (by omega)
set_option maxHeartbeats 4000000 in
set_option maxRecDepth 100000 in
theorem c_give {l : Launch} {D : va_G} {ad : Nat → Nat} {g : Nat × Nat × Nat × Nat} (hg : 3 ≤ g.1 ∧ g.1 ≤ 11 ∧ 8 ≤ g.2.1 ∧ g.2.1 ≤ 2048 ∧ 1 ≤ g.2.2.1 ∧ g.2.2.1 ≤ 24 ∧ 1 ≤ g.2.2.2 ∧ g.2.2.2 ≤ 12) (hnp : g.2.1 = 2 ^ g.1) (σ : St) (hM : MI g.1 (σ 4)) (hC : CN g σ) (k : Nat) (hk : k ≤ 64) : Kt l D ad g yX1_give (Cond.code yX1_give cX1_give 5 (some .int) :: tb) 1 40 [.ref (ad 1), vi (k : Int)] σ (fun v σ' => ∃ r : Int, v = some (vi r) ∧ gvP g σ σ' k r) := by
  refine ct_of (by decide) rfl (Nat.le_of_ble_eq_true rfl) ?_
  intro p e s m below meth c C
  change X _ _ _ _ _ _ _ _ _ _ _ _ _ _ _ _ [(0, .ref (ad 1)), (1, vi (k : Int))] _
  refine x_aload_n C dX1_give_0 rfl rfl ?_
  refine x_iload_n C dX1_give_1 rfl rfl ?_
  refine x_callV C (ci := 1) (nn := 1) (c_leastFreeOrder hg σ (hC.rg (by omega)) (k : Int) (by omega)) g_RX1_38 rfl (by decide +kernel) ⟨by first | decide | omega, by first | decide | omega⟩ rfl rfl rfl rfl rfl (Nat.le_of_ble_eq_true rfl) dX1_give_2 (fun v h1 hp => ?_)
  obtain ⟨σ1, rfl, rfl, r, rfl, hr⟩ := hp
  have hrr : -1 ≤ r ∧ r ≤ 64 := by rcases hr with ⟨h1, -⟩ | ⟨h1, h2, -⟩ <;> omega
  refine x_istore_n C (lv' := [(2, _), (0, _), (1, _)]) dX1_give_5 rfl (by decide) rfl ?_
  refine x_iload_n C dX1_give_6 rfl rfl ?_
  refine x_iconst C dX1_give_7 ?_
  refine x_icmp_ne (tgt := 15) C dX1_give_8 (by decide) (by omega) (by omega) (fun c_8 => ?_) (fun c_8 => ?_)
  · rcases hr with ⟨hr, -⟩ | ⟨h1, h2, h3, h4⟩
    · exact absurd hr c_8
    obtain ⟨d, rfl⟩ : ∃ d : Nat, r = ((k + d : Nat) : Int) := ⟨(r - k).toNat, by omega⟩
    rw [Int.toNat_natCast] at h3
    have hco := hC (k + d) (by omega)
    refine x_aload_n C dX1_give_15 rfl rfl ?_
    refine x_iload_n C dX1_give_16 rfl rfl ?_
    refine x_iconst C dX1_give_17 ?_
    refine x_callV C (ci := 1) (nn := 2) (c_addressOfFree hg hnp σ hM hC (k + d) (by omega) 0 (by omega)) g_RX1_42 rfl (by decide +kernel) ⟨by first | decide | omega, by first | decide | omega⟩ rfl rfl rfl rfl rfl (Nat.le_of_ble_eq_true rfl) dX1_give_18 (fun v h1 hp => ?_)
    obtain ⟨σ1, rfl, rfl, r2, rfl, hr2⟩ := hp
    rcases hr2 with ⟨-, hr2⟩ | ⟨a, rfl, ha1, ha2, ha3⟩
    · exact absurd ⟨by omega, by omega⟩ hr2
    have hMa := hM.2.1 a (k + d) (by omega) ha2
    refine x_istore_n C (lv' := [(3, _), (2, _), (0, _), (1, _)]) dX1_give_21 rfl (by decide) rfl ?_
    refine x_iload_n C dX1_give_22 rfl rfl ?_
    refine x_iconst C dX1_give_23 ?_
    refine x_icmp_ne (tgt := 29) C dX1_give_24 (by decide) (by omega) (by omega) (fun c_24 => ?_) (fun c_24 => ?_)
    · refine x_aload_n C dX1_give_29 rfl rfl ?_
      refine x_iload_n C dX1_give_30 rfl rfl ?_
      refine x_iload_n C dX1_give_31 rfl rfl ?_
      refine x_callV C (ci := 1) (nn := 2) (c_removeFreeN hg σ a (k + d) ha1 (by omega)) g_RX1_46 rfl (by decide +kernel) ⟨by first | decide | omega, by first | decide | omega⟩ rfl rfl rfl rfl rfl (Nat.le_of_ble_eq_true rfl) dX1_give_32 (fun v h1 hp => ?_)
      obtain ⟨σ1, rfl, rfl, rfl⟩ := hp
      refine x_iload_n C dX1_give_35 rfl rfl ?_
      refine x_iconst C dX1_give_36 ?_
      refine x_isub C dX1_give_37 ?_
      refine x_istore C (lv' := [(4, _), (3, _), (2, _), (0, _), (1, _)]) dX1_give_38 (by decide) rfl ?_
      refine lp_give C hg ⟨by decide, by decide⟩ σ a k (splF (zup (σ 4) a (-1)) a k d) ?_ (d + 1) d (by omega) _ (by omega) _ (by omega) (by omega) _ ?_ ?_ ?_ ?_
      · intro σ' lv e1 e2 e3 e4
        refine x_iload_n C dX1_give_64 rfl e4 ?_
        refine x_iret C dX1_give_65 ⟨_, rfl, _, rfl, Or.inr ⟨a, d, rfl, ha1, ha2, fun b hb hkb => ?_, fun b hb => cnt_no ha3 hb, e1, e2, e3⟩⟩
        rcases Int.lt_or_le (σ 4 b) ((k + d : Nat) : Int) with q | q
        · have h5 := hC.some hM hnp hb (by omega)
          exact absurd h5.2 (h4 _ hkb q)
        · exact q
      · rw [up_n (by decide), up_s]
      · exact hC.rem ha1 ha2
      · intro q h3 h4; rw [up_n h3, up_n h4]
      · intro j hj
        have hp := pw_lt hj
        have hp0 := Nat.two_pow_pos j
        rw [up_n (by decide), up_s, zup_n (by omega)]
        exact hMa.2.2 _ (by omega) (by omega)
    · omega
  · refine x_iconst C dX1_give_11 ?_
    refine x_goto (tgt := 21) C dX1_give_12 (by decide) ?_
    refine x_istore_n C (lv' := [(3, _), (2, _), (0, _), (1, _)]) dX1_give_21 rfl (by decide) rfl ?_
    refine x_iload_n C dX1_give_22 rfl rfl ?_
    refine x_iconst C dX1_give_23 ?_
    refine x_icmp_ne (tgt := 29) C dX1_give_24 (by decide) (by omega) (by omega) (fun q => absurd rfl q) (fun q => ?_)
    refine x_iconst C dX1_give_27 ?_
    refine x_iret C dX1_give_28 ⟨_, rfl, _, rfl, Or.inl ⟨rfl, rfl, fun a ha hka => ?_⟩⟩
    rcases hr with ⟨-, hr⟩ | ⟨h1, -⟩
    · have h1 := hC.some hM hnp ha (by omega)
      exact hr (σ 4 a) hka h1.1 h1.2
    · omega
theorem jnF_s {pl n a o : Nat} {f : Nat → Int} (h : o < pl ∧ f (a ^^^ 2 ^ o) = (o : Int)) : jnF pl (n + 1) f a o = jnF pl n (zup f (a ^^^ 2 ^ o) (-1)) (if a < a ^^^ 2 ^ o then a else a ^^^ 2 ^ o) (o + 1) := by
  show (if o < pl ∧ f (a ^^^ 2 ^ o) = (o : Int) then _ else _) = _
  rw [if_pos h]
theorem MI.rem {pl : Nat} {f : Nat → Int} (h : MI pl f) {a : Nat} : MI pl (zup f a (-1)) := by
  obtain ⟨h1, h2, h3⟩ := h
  refine ⟨fun b hb => ?_, fun b o hb e => ?_, fun b o hb ho e => ?_⟩
  · by_cases c : b = a
    · rw [c, zup_s]; omega
    · rw [zup_n c]; exact h1 b hb
  · by_cases c : b = a
    · rw [c, zup_s] at e; omega
    · rw [zup_n c] at e
      obtain ⟨q1, q2, q3⟩ := h2 b o hb e
      refine ⟨q1, q2, fun b1 e1 e2 => ?_⟩
      by_cases c1 : b1 = a
      · rw [c1, zup_s]
      · rw [zup_n c1]; exact q3 b1 e1 e2
  · by_cases c : b = a
    · rw [c, zup_s] at e; omega
    · rw [zup_n c] at e
      by_cases c1 : b ^^^ 2 ^ o = a
      · rw [c1, zup_s]; omega
      · rw [zup_n c1]; exact h3 b o hb ho e
/-- the block that a buddy's and one's own are together -/
theorem jn_blk {pl a o : Nat} {f : Nat → Int} (hpl : pl ≤ 11) (hM : MI pl f) (ho : o < pl) (hd : 2 ^ o ∣ a) (ha : a + 2 ^ o ≤ 2 ^ pl) (hf : f (a ^^^ 2 ^ o) = (o : Int)) (hno : ∀ b, a ≤ b → b < a + 2 ^ o → f b = -1) :
    2 ^ (o + 1) ∣ (if a < a ^^^ 2 ^ o then a else a ^^^ 2 ^ o) ∧ (if a < a ^^^ 2 ^ o then a else a ^^^ 2 ^ o) + 2 ^ (o + 1) ≤ 2 ^ pl ∧ ∀ b, (if a < a ^^^ 2 ^ o then a else a ^^^ 2 ^ o) ≤ b → b < (if a < a ^^^ 2 ^ o then a else a ^^^ 2 ^ o) + 2 ^ (o + 1) → zup f (a ^^^ 2 ^ o) (-1) b = -1 := by
  have h11 : 2 ^ pl ≤ 2048 := Nat.le_trans (Nat.pow_le_pow_right (by decide) hpl) (by decide)
  have hp0 := Nat.two_pow_pos o
  have hps : 2 ^ (o + 1) = 2 * 2 ^ o := by rw [Nat.pow_succ]; omega
  have hbl := bud_lt ho (show a < 2 ^ pl by omega)
  obtain ⟨m1, m2, m3⟩ := hM.2.1 _ o hbl hf
  obtain ⟨x, hx⟩ := hd
  have hdiv : a / 2 ^ o = x := by rw [hx]; exact Nat.mul_div_cancel_left x hp0
  have hself : ∀ b, zup f (a ^^^ 2 ^ o) (-1) b = -1 ↔ (b = a ^^^ 2 ^ o ∨ f b = -1) := by
    intro b
    by_cases c : b = a ^^^ 2 ^ o
    · rw [c, zup_s]; simp
    · rw [zup_n c]; simp [c]
  rcases bud (show o < 11 by omega) (show a < 2048 by omega) with ⟨e1, e2⟩ | ⟨e1, e2⟩
  · rw [hdiv] at e1
    rw [if_pos (by omega)]
    obtain ⟨y, rfl⟩ : ∃ y, x = 2 * y := ⟨x / 2, by omega⟩
    refine ⟨⟨y, by rw [hx, hps, Nat.mul_comm 2 (2 ^ o), Nat.mul_assoc]⟩, by omega, fun b h1 h2 => (hself b).mpr ?_⟩
    rcases Nat.lt_or_ge b (a + 2 ^ o) with q | q
    · exact Or.inr (hno b h1 q)
    · rcases Nat.lt_or_ge (a ^^^ 2 ^ o) b with q2 | q2
      · exact Or.inr (m3 b q2 (by omega))
      · exact Or.inl (by omega)
  · rw [hdiv] at e1
    rw [if_neg (by omega)]
    obtain ⟨y, rfl⟩ : ∃ y, x = 2 * y + 1 := ⟨x / 2, by omega⟩
    have e3 : a ^^^ 2 ^ o = 2 ^ (o + 1) * y := by
      rw [Nat.mul_add, Nat.mul_one, ← Nat.mul_assoc, Nat.mul_comm (2 ^ o) 2, ← hps] at hx
      omega
    refine ⟨⟨y, e3⟩, by omega, fun b h1 h2 => (hself b).mpr ?_⟩
    rcases Nat.lt_or_ge b a with q | q
    · rcases Nat.lt_or_ge (a ^^^ 2 ^ o) b with q2 | q2
      · exact Or.inr (m3 b q2 (by omega))
      · exact Or.inl (by omega)
    · exact Or.inr (hno b q (by omega))
set_option maxHeartbeats 4000000 in
set_option maxRecDepth 100000 in
theorem lp_takeBack {p : Program} {l : Launch} {e : Env} {R : Room} {s : State} {m : MethodId} {args : Array Value} {below : List Frame} {meth : Method} {c : Code} {D : va_G} {ad : Nat → Nat} {g : Nat × Nat × Nat × Nat} {Q : State → Prop} (C : Fx p s m args meth c D ad cX1_takeBack 5 none yX1_takeBack.cls tb) (hg : 3 ≤ g.1 ∧ g.1 ≤ 11 ∧ 8 ≤ g.2.1 ∧ g.2.1 ≤ 2048 ∧ 1 ≤ g.2.2.1 ∧ g.2.2.1 ≤ 24 ∧ 1 ≤ g.2.2.2 ∧ g.2.2.2 ≤ 12) (hnp : g.2.1 = 2 ^ g.1) (hR : 1 ≤ R.frames ∧ 40 ≤ R.locals) (σ : St) (F : Nat → Int) (K : ∀ (σ' : St) lv, σ' 4 = F → CN g σ' → (∀ q, q ≠ 3 → q ≠ 4 → σ' q = σ q) → X p l e R s m args below meth c D ad 5 Q (kc D ad g σ') 64 lv []) (a0 o0 : Int) (n : Nat) (a o : Nat) (hn : g.1 - o < n) (ho : o ≤ g.1) (hd : 2 ^ o ∣ a) (ha : a + 2 ^ o ≤ 2 ^ g.1) (σ1 : St) (hM : MI g.1 (σ1 4)) (hno : ∀ b, a ≤ b → b < a + 2 ^ o → σ1 4 b = -1) (hF : jnF g.1 n (σ1 4) a o = F) (hC : CN g σ1) (hrow : ∀ q, q ≠ 3 → q ≠ 4 → σ1 q = σ q) : X p l e R s m args below meth c D ad 5 Q (kc D ad g σ1) 5 [(4, vi (o : Int)), (3, vi (a : Int)), (0, .ref (ad 1)), (1, vi a0), (2, vi o0)] [] := by
  induction n generalizing a o σ1 with
  | zero => omega
  | succ n ih =>
  skip
  refine x_iload C dX1_takeBack_5 rfl ?_
  refine x_aload_n C dX1_takeBack_7 rfl rfl ?_
  refine x_get C (Cn := RX1) (T := TX1) (N := 4) (ci := 1) 0 dX1_takeBack_8 m_w_1 m_f_RX1_9 rfl (by decide) rfl rfl ?_
  have hp0 := Nat.two_pow_pos o
  refine x_icmp_ge (tgt := 57) C dX1_takeBack_11 (by decide) (by omega) (by omega) (fun c_11 => ?_) (fun c_11 => ?_)
  · have hFe : zup (σ1 4) a (o : Int) = F := by
      rw [← hF, jnF, if_neg (fun q => by first | omega | exact absurd q.2 c_27)]
    have hp0 := Nat.two_pow_pos o
    refine x_aload_n C dX1_takeBack_57 rfl rfl ?_
    refine x_iload_n C dX1_takeBack_58 rfl rfl ?_
    refine x_iload C dX1_takeBack_59 rfl ?_
    refine x_callV C (ci := 1) (nn := 2) (c_addFreeN hg σ1 a o (by omega) ho) g_RX1_34 rfl (by decide +kernel) ⟨by first | decide | omega, by first | decide | omega⟩ rfl rfl rfl rfl rfl (Nat.le_of_ble_eq_true rfl) dX1_takeBack_61 (fun v h1 hp => ?_)
    obtain ⟨σ2, rfl, rfl, rfl⟩ := hp
    exact K _ _ (by rw [up_n (by decide), up_s]; exact hFe) (hC.add (by omega) (hno a (by omega) (by omega))) (fun q h3 h4 => by rw [up_n h3, up_n h4]; exact hrow q h3 h4)
  · have hop : o < g.1 := by omega
    have hbl := bud_lt hop (show a < 2 ^ g.1 by omega)
    have hrb := hM.1 _ hbl
    refine x_aload_n C dX1_takeBack_14 rfl rfl ?_
    refine x_get C (Cn := RX1) (T := TX1) (N := 4) (ci := 1) 3 dX1_takeBack_15 m_w_1 m_f_RX1_22 rfl (by decide) rfl rfl ?_
    refine x_iload_n C dX1_takeBack_18 rfl rfl ?_
    refine x_iconst C dX1_takeBack_19 ?_
    refine x_iload C dX1_takeBack_20 rfl ?_
    refine x_ishl C dX1_takeBack_22 (by omega) ?_
    refine x_ixor C (z := ((a ^^^ 2 ^ o : Nat) : Int)) dX1_takeBack_23 (by rw [pw_c, iI_xor]) ?_
    refine x_iald C dX1_takeBack_24 rfl (by omega) (by omega) ?_
    refine x_iload C dX1_takeBack_25 rfl ?_
    rw [Int.toNat_natCast]
    refine x_icmp_ne (tgt := 57) C dX1_takeBack_27 (by decide) (by omega) (by omega) (fun c_27 => ?_) (fun c_27 => ?_)
    · have hFe : zup (σ1 4) a (o : Int) = F := by
        rw [← hF, jnF, if_neg (fun q => by first | omega | exact absurd q.2 c_27)]
      have hp0 := Nat.two_pow_pos o
      refine x_aload_n C dX1_takeBack_57 rfl rfl ?_
      refine x_iload_n C dX1_takeBack_58 rfl rfl ?_
      refine x_iload C dX1_takeBack_59 rfl ?_
      refine x_callV C (ci := 1) (nn := 2) (c_addFreeN hg σ1 a o (by omega) ho) g_RX1_34 rfl (by decide +kernel) ⟨by first | decide | omega, by first | decide | omega⟩ rfl rfl rfl rfl rfl (Nat.le_of_ble_eq_true rfl) dX1_takeBack_61 (fun v h1 hp => ?_)
      obtain ⟨σ2, rfl, rfl, rfl⟩ := hp
      exact K _ _ (by rw [up_n (by decide), up_s]; exact hFe) (hC.add (by omega) (hno a (by omega) (by omega))) (fun q h3 h4 => by rw [up_n h3, up_n h4]; exact hrow q h3 h4)
    · refine x_aload_n C dX1_takeBack_30 rfl rfl ?_
      refine x_iload_n C dX1_takeBack_31 rfl rfl ?_
      refine x_iconst C dX1_takeBack_32 ?_
      refine x_iload C dX1_takeBack_33 rfl ?_
      refine x_ishl C dX1_takeBack_35 (by omega) ?_
      refine x_ixor C (z := ((a ^^^ 2 ^ o : Nat) : Int)) dX1_takeBack_36 (by rw [pw_c, iI_xor]) ?_
      refine x_iload C dX1_takeBack_37 rfl ?_
      refine x_callV C (ci := 1) (nn := 2) (c_removeFreeN hg σ1 (a ^^^ 2 ^ o) o (by omega) (by omega)) g_RX1_46 rfl (by decide +kernel) ⟨by first | decide | omega, by first | decide | omega⟩ rfl rfl rfl rfl rfl (Nat.le_of_ble_eq_true rfl) dX1_takeBack_39 (fun v h1 hp => ?_)
      obtain ⟨σ2, rfl, rfl, rfl⟩ := hp
      refine x_iload_n C dX1_takeBack_42 rfl rfl ?_
      refine x_iconst C dX1_takeBack_43 ?_
      refine x_iload C dX1_takeBack_44 rfl ?_
      refine x_ishl C dX1_takeBack_46 (by omega) ?_
      refine x_iconst C dX1_takeBack_47 ?_
      refine x_ixor C (z := (-((2 ^ o : Nat) : Int) - 1)) dX1_takeBack_48 (by rw [pw_c]; exact not32 ⟨o, by omega⟩) ?_
      refine x_iand C (z := ((if a < a ^^^ 2 ^ o then a else a ^^^ 2 ^ o : Nat) : Int)) dX1_takeBack_49 (iI_clr (by omega) (by omega)) ?_
      refine x_istore_n C (lv' := [(3, _), (4, _), (0, _), (1, _), (2, _)]) dX1_takeBack_50 rfl (by decide) rfl ?_
      refine x_iinc C (lv' := [(4, _), (3, _), (0, _), (1, _), (2, _)]) dX1_takeBack_51 rfl (by decide) rfl ?_
      refine x_goto (tgt := 5) C dX1_takeBack_54 (by decide) ?_
      skip
      rw [show (o : Int) + 1 = ((o + 1 : Nat) : Int) by omega]
      have hjb := jn_blk (by omega) hM hop hd ha c_27 hno
      refine ih _ (o + 1) (by omega) (by omega) hjb.1 hjb.2.1 _ ?_ ?_ ?_ (hC.rem (by omega) c_27) ?_
      · rw [up_n (by decide), up_s]; exact hM.rem
      · rw [up_n (by decide), up_s]; exact hjb.2.2
      · rw [up_n (by decide), up_s]; rw [jnF_s ⟨hop, c_27⟩] at hF; exact hF
      · intro q h3 h4; rw [up_n h3, up_n h4]; exact hrow q h3 h4
set_option maxHeartbeats 4000000 in
set_option maxRecDepth 100000 in
theorem c_takeBack {l : Launch} {D : va_G} {ad : Nat → Nat} {g : Nat × Nat × Nat × Nat} (hg : 3 ≤ g.1 ∧ g.1 ≤ 11 ∧ 8 ≤ g.2.1 ∧ g.2.1 ≤ 2048 ∧ 1 ≤ g.2.2.1 ∧ g.2.2.1 ≤ 24 ∧ 1 ≤ g.2.2.2 ∧ g.2.2.2 ≤ 12) (hnp : g.2.1 = 2 ^ g.1) (σ : St) (hM : MI g.1 (σ 4)) (hC : CN g σ) (a o : Nat) (ho : o ≤ g.1) (hd : 2 ^ o ∣ a) (ha : a + 2 ^ o ≤ 2 ^ g.1) (hno : ∀ b, a ≤ b → b < a + 2 ^ o → σ 4 b = -1) : Kt l D ad g yX1_takeBack (Cond.code yX1_takeBack cX1_takeBack 5 none :: tb) 1 40 [.ref (ad 1), vi (a : Int), vi (o : Int)] σ (fun v σ' => v = none ∧ σ' 4 = jnF g.1 12 (σ 4) a o ∧ CN g σ' ∧ ∀ q, q ≠ 3 → q ≠ 4 → σ' q = σ q) := by
  refine ct_of (by decide) rfl (Nat.le_of_ble_eq_true rfl) ?_
  intro p e s m below meth c C
  change X _ _ _ _ _ _ _ _ _ _ _ _ _ _ _ _ [(0, .ref (ad 1)), (1, vi (a : Int)), (2, vi (o : Int))] _
  refine x_iload_n C dX1_takeBack_0 rfl rfl ?_
  refine x_istore_n C (lv' := [(3, _), (0, _), (1, _), (2, _)]) dX1_takeBack_1 rfl (by decide) rfl ?_
  refine x_iload_n C dX1_takeBack_2 rfl rfl ?_
  refine x_istore C (lv' := [(4, _), (3, _), (0, _), (1, _), (2, _)]) dX1_takeBack_3 (by decide) rfl ?_
  refine lp_takeBack C hg hnp ⟨by decide, by decide⟩ σ _ ?_ _ _ 12 a o (by omega) ho hd ha σ hM hno rfl hC (fun _ _ _ => rfl)
  intro σ' lv h1 h2 h3
  exact x_vret C dX1_takeBack_64 ⟨_, rfl, rfl, h1, h2, h3⟩
