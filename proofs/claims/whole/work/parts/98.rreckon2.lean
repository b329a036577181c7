/-! THE REFERENCE'S RECKON -/
def RRP (ρ ρ' : St) (Ar nr : Nat) (P : Int) : Prop := (∀ q, ¬ (Ar ≤ q ∧ q < Ar + nr) → ρ' 4 q = ρ 4 q) ∧ LMr ρ' ∧ nv (ρ' 4) Ar nr = P ∧ (∀ q, q ≠ 0 → q ≠ 4 → q ≠ 24 → q ≠ 25 → q ≠ 26 → q ≠ 27 → q ≠ 28 → ρ' q = ρ q) ∧ ∀ k, k < 29 → ρ' 0 k = ρ 0 k
theorem rr_of {ρ ρ1 : St} {s : Nat → Int} {Ar nr r : Nat} {P : Int} (hL : LMr ρ) (h1 : ∀ q, q ≠ 0 → q ≠ 24 → q ≠ 25 → q ≠ 26 → q ≠ 27 → q ≠ 28 → ρ1 q = ρ q) (h2 : ∀ k, k < 29 → ρ1 0 k = ρ 0 k) (hs : ∀ i, i < r → 0 ≤ s i ∧ s i < 2147483648) (hr : r ≤ nr) (hP : nv s 0 r = P) : RRP ρ (upr ρ1 4 (ptF (ρ1 4) s Ar nr r)) Ar nr P := by
  have e4 := h1 4 (by decide) (by decide) (by decide) (by decide) (by decide) (by decide)
  refine ⟨fun q hq => by rw [upr_s]; unfold ptF; rw [if_neg hq, e4], pt_lm (hL.row e4) hs, by rw [upr_s, pt_nv hr, hP], fun q q0 q4 q24 q25 q26 q27 q28 => by rw [upr_n q4]; exact h1 q q0 q24 q25 q26 q27 q28, fun k hk => by rw [upr_n (by decide)]; exact h2 k hk⟩
set_option maxHeartbeats 4000000 in
set_option maxRecDepth 100000 in
theorem r_reckon2 {l : Launch} {D : va_G} {ad : Nat → Nat} (ρ : St) (hL : LMr ρ) (j a b h Aa na Ab nb Ar nr : Nat) (hj : j < 12) (eop : ρ 13 j = 2) (eh : ρ 18 j = h) (ea : ρ 14 j = a) (eb : ρ 15 j = b) (hab : a < 24 ∧ b < 24 ∧ h < 24) (hAa : ρ 8 a = Aa) (hna : ρ 7 a = na) (hla : Aa + na ≤ 2048) (hAb : ρ 8 b = Ab) (hnb : ρ 7 b = nb) (hlb : Ab + nb ≤ 2048) (hAr : ρ 8 h = Ar) (hnr : ρ 7 h = nr) (hlr : Ar + nr ≤ 2048) (hfit : gd (nv (ρ 4) Aa na) (nv (ρ 4) Ab nb) < 2147483648 ^ nr) : Rt l D ad yX6_reckon (Cond.code yX6_reckon cX6_reckon 5 none :: tb) 4 200 [.ref (ad 0), vi (j : Int)] ρ (fun v ρ' => v = none ∧ RRP ρ ρ' Ar nr (gd (nv (ρ 4) Aa na) (nv (ρ 4) Ab nb))) := by
  refine ct_of (by decide) rfl (Nat.le_of_ble_eq_true rfl) ?_
  intro p e s m below meth c C
  change X _ _ _ _ _ _ _ _ _ _ _ _ _ _ _ _ [(0, .ref (ad 0)), (1, vi (j : Int))] _
  refine x_aload_n C dX6_reckon_0 rfl rfl ?_
  refine x_get C (Cn := RX6) (T := TX6) (N := 33) (ci := 6) 18 dX6_reckon_1 m_w_6 m_f_RX6_54 rfl (by decide) rfl rfl ?_
  refine x_iload_n C dX6_reckon_4 rfl rfl ?_
  refine x_iald C dX6_reckon_5 rfl (by omega) (by omega) ?_
  rw [Int.toNat_natCast, eh]
  refine x_istore_n C (lv' := [(2, _), (0, _), (1, _)]) dX6_reckon_6 rfl (by decide) rfl ?_
  refine x_aload_n C dX6_reckon_7 rfl rfl ?_
  refine x_get C (Cn := RX6) (T := TX6) (N := 33) (ci := 6) 13 dX6_reckon_8 m_w_6 m_f_RX6_38 rfl (by decide) rfl rfl ?_
  refine x_iload_n C dX6_reckon_11 rfl rfl ?_
  refine x_iald C dX6_reckon_12 rfl (by omega) (by omega) ?_
  rw [Int.toNat_natCast, eop]
  refine x_tableIn (off := 190) (tgt := 203) C dX6_reckon_13 (by omega) (by omega) (by omega) rfl (by decide) ?_
  refine x_aload_n C dX6_reckon_203 rfl rfl ?_
  refine x_iload_n C dX6_reckon_204 rfl rfl ?_
  refine x_callV C (ci := 6) (nn := 1) (r_common ρ hL j a b Aa na Ab nb hj ea eb ⟨hab.1, hab.2.1⟩ hAa hna hla hAb hnb hlb) g_RX6_222 rfl (by decide +kernel) ⟨by first | decide | omega, by first | decide | omega⟩ rfl rfl rfl rfl rfl (Nat.le_of_ble_eq_true rfl) dX6_reckon_205 (fun v h1 hp => ?_)
  obtain ⟨ρ1, rfl, rfl, un, u1, u2, u3, u4, u5, u6⟩ := hp
  refine x_aload_n C dX6_reckon_208 rfl rfl ?_
  refine x_iload_n C dX6_reckon_209 rfl rfl ?_
  refine x_callV C (ci := 6) (nn := 1) (r_putU ρ1 h Ar nr un hab.2.2 (by rw [u4 8 (by decide) (by decide) (by decide) (by decide)]; exact hAr) (by rw [u4 7 (by decide) (by decide) (by decide) (by decide)]; exact hnr) hlr u2 (by omega)) g_RX6_213 rfl (by decide +kernel) ⟨by first | decide | omega, by first | decide | omega⟩ rfl rfl rfl rfl rfl (Nat.le_of_ble_eq_true rfl) dX6_reckon_210 (fun v h1 hp => ?_)
  obtain ⟨ρ2, rfl, rfl, rfl⟩ := hp
  refine x_goto (tgt := 275) C dX6_reckon_213 (by decide) ?_
  exact x_vret C dX6_reckon_275 ⟨_, rfl, rfl, rr_of hL (fun q q0 q24 q25 q26 _ _ => u4 q q0 q24 q25 q26) (fun k hk => u3 k (by omega) (by omega)) u5.1 (u5.fit (by rw [u6]; exact hfit)) u6⟩
set_option maxHeartbeats 4000000 in
set_option maxRecDepth 100000 in
theorem r_reckon3 {l : Launch} {D : va_G} {ad : Nat → Nat} (ρ : St) (hL : LMr ρ) (j a b m0 h Aa na Ab nb Am nm Ar nr : Nat) (hj : j < 12) (eop : ρ 13 j = 3) (eh : ρ 18 j = h) (ea : ρ 14 j = a) (eb : ρ 15 j = b) (em : ρ 16 j = m0) (hab : a < 24 ∧ b < 24 ∧ m0 < 24 ∧ h < 24) (hAa : ρ 8 a = Aa) (hna : ρ 7 a = na) (hla : Aa + na ≤ 2048) (hAb : ρ 8 b = Ab) (hnb : ρ 7 b = nb) (hlb : Ab + nb ≤ 2048) (hAm : ρ 8 m0 = Am) (hnm : ρ 7 m0 = nm) (hlm : Am + nm ≤ 2048) (hmp : nv (ρ 4) Am nm ≠ 0) (hAr : ρ 8 h = Ar) (hnr : ρ 7 h = nr) (hlr : Ar + nr ≤ 2048) (hfit : nv (ρ 4) Aa na ^ (nv (ρ 4) Ab nb).toNat % nv (ρ 4) Am nm < 2147483648 ^ nr) : Rt l D ad yX6_reckon (Cond.code yX6_reckon cX6_reckon 5 none :: tb) 5 240 [.ref (ad 0), vi (j : Int)] ρ (fun v ρ' => v = none ∧ RRP ρ ρ' Ar nr (nv (ρ 4) Aa na ^ (nv (ρ 4) Ab nb).toNat % nv (ρ 4) Am nm)) := by
  refine ct_of (by decide) rfl (Nat.le_of_ble_eq_true rfl) ?_
  intro p e s m below meth c C
  change X _ _ _ _ _ _ _ _ _ _ _ _ _ _ _ _ [(0, .ref (ad 0)), (1, vi (j : Int))] _
  refine x_aload_n C dX6_reckon_0 rfl rfl ?_
  refine x_get C (Cn := RX6) (T := TX6) (N := 33) (ci := 6) 18 dX6_reckon_1 m_w_6 m_f_RX6_54 rfl (by decide) rfl rfl ?_
  refine x_iload_n C dX6_reckon_4 rfl rfl ?_
  refine x_iald C dX6_reckon_5 rfl (by omega) (by omega) ?_
  rw [Int.toNat_natCast, eh]
  refine x_istore_n C (lv' := [(2, _), (0, _), (1, _)]) dX6_reckon_6 rfl (by decide) rfl ?_
  refine x_aload_n C dX6_reckon_7 rfl rfl ?_
  refine x_get C (Cn := RX6) (T := TX6) (N := 33) (ci := 6) 13 dX6_reckon_8 m_w_6 m_f_RX6_38 rfl (by decide) rfl rfl ?_
  refine x_iload_n C dX6_reckon_11 rfl rfl ?_
  refine x_iald C dX6_reckon_12 rfl (by omega) (by omega) ?_
  rw [Int.toNat_natCast, eop]
  refine x_tableOut (tgt := 216) C dX6_reckon_13 (by omega) (by omega) (by decide) ?_
  refine x_aload_n C dX6_reckon_216 rfl rfl ?_
  refine x_iload_n C dX6_reckon_217 rfl rfl ?_
  refine x_callV C (ci := 6) (nn := 1) (r_power ρ hL j a b m0 Aa na Ab nb Am nm hj ea eb em ⟨hab.1, hab.2.1, hab.2.2.1⟩ hAa hna hla hAb hnb hlb hAm hnm hlm hmp) g_RX6_225 rfl (by decide +kernel) ⟨by first | decide | omega, by first | decide | omega⟩ rfl rfl rfl rfl rfl (Nat.le_of_ble_eq_true rfl) dX6_reckon_218 (fun v h1 hp => ?_)
  obtain ⟨ρ1, rfl, rfl, rn, u1, u2, u3, u4, u5, u6⟩ := hp
  refine x_iconst C dX6_reckon_221 ?_
  refine x_istore C (lv' := [(4, _), (2, _), (0, _), (1, _)]) dX6_reckon_222 (by decide) rfl ?_
  refine rp_recR C ρ1 h Ar nr rn j (by omega) u2 hab.2.2.2 (by rw [u4 8 (by decide) (by decide) (by decide) (by decide) (by decide) (by decide)]; exact hAr) (by rw [u4 7 (by decide) (by decide) (by decide) (by decide) (by decide) (by decide)]; exact hnr) hlr ?_ (nr + 1) 0 (by omega) (by omega) _ (pt_0 _ _ _ _).symm
  intro lv
  exact x_vret C dX6_reckon_275 ⟨_, rfl, rfl, rr_of hL u4 (fun k hk => u3 k (by omega) (by omega) (by omega) (by omega)) u5.1 (u5.fit (by rw [u6]; exact hfit)) u6⟩
