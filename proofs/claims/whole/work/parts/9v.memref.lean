/-! CONSTRUCTORS: the memory, the reference -/
set_option maxHeartbeats 4000000 in
set_option maxRecDepth 100000 in
theorem n_mem {l : Launch} {D : va_G} (a sz pl : Nat) (ha : a < sz) (hp : 3 ≤ pl ∧ pl ≤ 11) : Cn l yX1_init (Cond.code yX1_init cX1_init 2 none :: tb) 2 80 3 (2 ^ pl + (pl + 1) + 2 ^ pl) D [.ref a, vi (pl : Int)] a sz (.inr (1, [vi 0, .null, .null, .null])) (fun _ => True) (fun cs => cs 0 = .inr (1, [vi (pl : Int), .ref sz, .ref (sz + 1), .ref (sz + 2)]) ∧ cs 1 = .inl (D.1 10, 2 ^ pl, .inl (fun _ => iI 0)) ∧ ∃ f3 f4 : Nat → Int, cs 2 = .inl (D.1 10, pl + 1, .inl (fun j => iI (f3 j))) ∧ cs 3 = .inl (D.1 10, 2 ^ pl, .inl (fun j => iI (f4 j))) ∧ (∀ b, b < 2 ^ pl → f4 b = if b = 0 then (pl : Int) else -1) ∧ ∀ k, k ≤ pl → f3 k = if k = pl then 1 else 0) := by
  obtain ⟨ad, hk, h2, h3, h4⟩ := ad_4 a sz ha
  have hk0 := hk
  obtain ⟨-, -, rfl, -⟩ := hk0
  have h2p : 2 ^ pl ≤ 2048 := Nat.pow_le_pow_right (n := 2) (by decide) hp.2
  have h2q : 8 ≤ 2 ^ pl := Nat.pow_le_pow_right (n := 2) (i := 3) (by decide) hp.1
  refine cn_of (by decide) rfl rfl (Nat.le_of_ble_eq_true rfl) hk ?_
  intro p e s m below meth c hsz hP C hmi
  change Y _ _ _ _ _ _ _ _ _ _ _ _ _ _ _ _ _ _ [(0, .ref (ad 1)), (1, vi (pl : Int))] _
  refine y_aload_n C dX1_init_0 rfl rfl ?_
  refine y_obj C dX1_init_1 m_l_RX1_3 m_oi m_oc (Nat.le_of_ble_eq_true rfl) (Nat.le_of_ble_eq_true rfl) ?_
  refine y_aload_n C dX1_init_4 rfl rfl ?_
  refine y_iload_n C dX1_init_5 rfl rfl ?_
  refine y_putF C hmi (Cn := RX1) (T := TX1) (N := 4) (ci := 1) (ty := .int) 0 dX1_init_6 m_w_1 m_f_RX1_9 rfl (by decide) tyX1 tyX1_ok nmX1 rfl rfl (by decide +kernel) rfl rfl (Nat.le_of_ble_eq_true rfl) rfl ?_
  refine y_aload_n C dX1_init_9 rfl rfl ?_
  refine y_iconst C dX1_init_10 ?_
  refine y_iload_n C dX1_init_11 rfl rfl ?_
  refine y_ishl C dX1_init_12 (by omega) ?_
  rw [pw_c]
  refine y_newI C 2 (2 ^ pl) dX1_init_13 m_aI rfl (by omega) (show 0 + 1 ≤ 3 by decide) (show 0 + 2 ^ pl ≤ 2 ^ pl + (pl + 1) + 2 ^ pl by omega) (by decide) (by omega) ?_
  refine y_putF C hmi (Cn := RX1) (T := TX1) (N := 4) (ci := 1) (ty := (.array .int)) 1 dX1_init_15 m_w_1 m_f_RX1_15 rfl (by decide) tyX1 tyX1_ok nmX1 rfl rfl (by decide +kernel) rfl rfl (Nat.le_of_ble_eq_true rfl) rfl ?_
  refine y_aload_n C dX1_init_18 rfl rfl ?_
  refine y_iload_n C dX1_init_19 rfl rfl ?_
  refine y_iconst C dX1_init_20 ?_
  refine y_iadd C dX1_init_21 ?_
  refine y_newI C 3 (pl + 1) dX1_init_22 m_aI (by omega) (by omega) (show 0 + 1 + 1 ≤ 3 by decide) (show 0 + 2 ^ pl + (pl + 1) ≤ 2 ^ pl + (pl + 1) + 2 ^ pl by omega) (by decide) (by omega) ?_
  refine y_putF C hmi (Cn := RX1) (T := TX1) (N := 4) (ci := 1) (ty := (.array .int)) 2 dX1_init_24 m_w_1 m_f_RX1_19 rfl (by decide) tyX1 tyX1_ok nmX1 rfl rfl (by decide +kernel) rfl rfl (Nat.le_of_ble_eq_true rfl) rfl ?_
  refine y_aload_n C dX1_init_27 rfl rfl ?_
  refine y_iconst C dX1_init_28 ?_
  refine y_iload_n C dX1_init_29 rfl rfl ?_
  refine y_ishl C dX1_init_30 (by omega) ?_
  rw [pw_c]
  refine y_newI C 4 (2 ^ pl) dX1_init_31 m_aI rfl (by omega) (show 0 + 1 + 1 + 1 ≤ 3 by decide) (show 0 + 2 ^ pl + (pl + 1) + 2 ^ pl ≤ 2 ^ pl + (pl + 1) + 2 ^ pl by omega) (by decide) (by omega) ?_
  refine y_putF C hmi (Cn := RX1) (T := TX1) (N := 4) (ci := 1) (ty := (.array .int)) 3 dX1_init_33 m_w_1 m_f_RX1_22 rfl (by decide) tyX1 tyX1_ok nmX1 rfl rfl (by decide +kernel) rfl rfl (Nat.le_of_ble_eq_true rfl) rfl ?_
  refine Y.cnt (cn' := 3) (sl' := 2 ^ pl + (pl + 1) + 2 ^ pl) rfl (by omega) ?_
  refine Y.eqh (h' := mk D ad (pl, 2 ^ pl, 1, 1) (fun _ _ => 0)) ?_ ?_
  · funext n
    match n with
    | 0 => rfl
    | 1 => rfl
    | 2 => rfl
    | 3 => rfl
    | 4 => rfl
    | n + 5 =>
      simp [hset, hone, mk]
  refine y_aload_n C dX1_init_36 rfl rfl ?_
  refine y_callV C (ci := 1) (nn := 0) (c_memClearM (g := (pl, 2 ^ pl, 1, 1)) ⟨hp.1, hp.2, h2q, h2p, Nat.le_of_ble_eq_true rfl, Nat.le_of_ble_eq_true rfl, Nat.le_of_ble_eq_true rfl, Nat.le_of_ble_eq_true rfl⟩ (fun _ _ => 0)) g_RX1_25 rfl (by decide +kernel) ⟨Nat.le_of_ble_eq_true rfl, Nat.le_of_ble_eq_true rfl⟩ ⟨Nat.le_refl 3, Nat.le_refl _⟩ rfl rfl rfl rfl rfl (Nat.le_of_ble_eq_true rfl) dX1_init_37 (fun v h1 hp1 => ?_)
  obtain ⟨σ', rfl, rfl, q1, q2, q3⟩ := hp1
  refine y_vret C hsz hk dX1_init_40 ⟨fun i => if i = 0 then .inr (1, [vi (pl : Int), .ref (ad 2), .ref (ad 3), .ref (ad 4)]) else if i = 1 then .inl (D.1 10, 2 ^ pl, .inl (fun j => iI (σ' 2 j))) else if i = 2 then .inl (D.1 10, pl + 1, .inl (fun j => iI (σ' 3 j))) else .inl (D.1 10, 2 ^ pl, .inl (fun j => iI (σ' 4 j))), ⟨?_, ?_, σ' 3, σ' 4, rfl, rfl, q2, q3⟩, rfl, fun i hi => ?_⟩
  · show Sum.inr (1, [vi (pl : Int), Value.ref (ad 2), Value.ref (ad 3), Value.ref (ad 4)]) = _
    rw [h2, h3, h4]
  · show Sum.inl (D.1 10, 2 ^ pl, Sum.inl (fun j => iI (σ' 2 j))) = _
    rw [q1 2 (by decide) (by decide)]
  · rcases (show i = 0 ∨ i = 1 ∨ i = 2 by omega) with rfl | rfl | rfl
    · exact ⟨2, rfl, by omega⟩
    · exact ⟨3, rfl, by omega⟩
    · exact ⟨4, rfl, by omega⟩
def adRr (a sz : Nat) : Nat → Nat := fun n => if n = 0 then a else if 4 ≤ n ∧ n ≤ 21 then sz + (n - 4) else if 24 ≤ n ∧ n ≤ 28 then sz + 18 + (n - 24) else sz + 1000 + n
theorem ad_r (a sz : Nat) (ha : a < sz) : adK (adRr a sz) 0 a sz ∧ (∀ n, 4 ≤ n → n ≤ 21 → adRr a sz n = sz + (n - 4)) ∧ (∀ n, 24 ≤ n → n ≤ 28 → adRr a sz n = sz + 18 + (n - 24)) := by
  refine ⟨⟨fun i j hi hj e => ?_, by decide, rfl, fun n hn => ?_⟩, fun n h1 h2 => ?_, fun n h1 h2 => ?_⟩
  · unfold adRr at e
    repeat' split at e
    all_goals omega
  · unfold adRr
    repeat' split
    all_goals omega
  · unfold adRr
    rw [if_neg (by omega), if_pos ⟨h1, h2⟩]
  · unfold adRr
    rw [if_neg (by omega), if_neg (by omega), if_pos ⟨h1, h2⟩]
/-- the reference's cells while they are made: those below m -/
def rq (D : va_G) (ad : Nat → Nat) (fs : List Value) (m : Nat) : HM := fun n => if n = 0 then some (.inr (6, fs)) else if n < m then rc D ad (fun _ _ => 0) n else none
theorem rq_0 {D : va_G} {ad : Nat → Nat} {fs : List Value} {m : Nat} : rq D ad fs m 0 = some (.inr (6, fs)) := rfl
theorem rq_put {D : va_G} {ad : Nat → Nat} {fs fs' : List Value} {m : Nat} : hset (rq D ad fs m) 0 (.inr (6, fs')) = rq D ad fs' m := by
  funext n
  by_cases c : n = 0
  · rw [c, hset_s]; rfl
  · rw [hset_n c]; unfold rq; rw [if_neg c, if_neg c]
theorem rq_new {D : va_G} {ad : Nat → Nat} {fs fs' : List Value} {m k : Nat} {x : va_E} (hk : k = m) (hm : m ≠ 0) (hx : rc D ad (fun _ _ => 0) m = some x) : hset (hset (rq D ad fs m) k x) 0 (.inr (6, fs')) = rq D ad fs' (m + 1) := by
  subst hk
  funext n
  by_cases c : n = 0
  · rw [c, hset_s]; rfl
  · rw [hset_n c]
    by_cases d : n = k
    · rw [d, hset_s]; unfold rq; rw [if_neg hm, if_pos (by omega), hx]
    · rw [hset_n d]; unfold rq; rw [if_neg c, if_neg c]
      by_cases e : n < k
      · rw [if_pos e, if_pos (by omega)]
      · rw [if_neg e, if_neg (by omega)]
theorem rq_gap {D : va_G} {ad : Nat → Nat} {fs : List Value} : rq D ad fs 22 = rq D ad fs 24 := by
  funext n
  unfold rq
  by_cases c : n = 0
  · rw [if_pos c, if_pos c]
  · rw [if_neg c, if_neg c]
    by_cases d : n < 22
    · rw [if_pos d, if_pos (by omega)]
    · rw [if_neg d]
      by_cases e : n < 24
      · rw [if_pos e]
        rcases (show n = 22 ∨ n = 23 by omega) with rfl | rfl <;> rfl
      · rw [if_neg e]
section RQ
variable {p : Program} {l : Launch} {e : Env} {R : Room} {s : State} {m : MethodId} {args : Array Value} {below : List Frame} {meth : Method} {c : Code} {D : va_G} {ad : Nat → Nat} {cc : ByteArray} {nL cn sl : Nat} {ret : Option FieldType} {Q : State → Prop} {pc : Nat} {lv : List (Nat × Value)} {st : List Value}
theorem y_rP (C : Fx p s m args meth c D ad cc nL ret RX6 tb) (hmi : meth.name = "<init>") {index k : Nat} {fs fs' : List Value} {x : va_E} {ty : FieldType} (hd : decode cc pc = .ok (.putfield index, 3)) (hlink : Cond.fieldLink RX6 index (TX6 k).1 (TX6 k).2.1 (TX6 k).2.2.1 ∈ tb) (hk : k < 33) (hk0 : k ≠ 0) (hfin : (TX6 k).2.2.2 = true) (hdecl : (TX6 k).1 = RX6) (hdt : parseFieldDescriptor (TX6 k).2.2.1 = some ty) (hn : narrow ty (.ref (ad k)) = .ref (ad k)) (hfit : fits ty (.ref (ad k)) = true) (hlen : fs.length = 33) (hx : rc D ad (fun _ _ => 0) k = some x) (hfs : fs.set k (.ref (ad k)) = fs') (K : Y p l e R s m args below meth c D ad nL cn sl Q (rq D ad fs' (k + 1)) (pc + 3) lv st) : Y p l e R s m args below meth c D ad nL cn sl Q (hset (rq D ad fs k) k x) pc lv (.ref (ad k) :: .ref (ad 0) :: st) :=
  y_putF C hmi (Cn := RX6) (T := TX6) (N := 33) (ci := 6) (fs := fs) k hd m_w_6 hlink rfl hk tyX6 tyX6_ok nmX6 hfin hdecl hdt hn hfit (by rw [hlen]; exact hk) (by rw [hset_n (fun e => hk0 e.symm)]; exact rq_0) (Y.eqh (by rw [hfs]; exact rq_new rfl hk0 hx) K)
theorem y_rS (C : Fx p s m args meth c D ad cc nL ret RX6 tb) (hmi : meth.name = "<init>") {index k mm : Nat} {fs fs' : List Value} {z : Int} (hd : decode cc pc = .ok (.putfield index, 3)) (hlink : Cond.fieldLink RX6 index (TX6 k).1 (TX6 k).2.1 (TX6 k).2.2.1 ∈ tb) (hk : k < 33) (hfin : (TX6 k).2.2.2 = true) (hdecl : (TX6 k).1 = RX6) (hdt : parseFieldDescriptor (TX6 k).2.2.1 = some .int) (hlen : fs.length = 33) (hfs : fs.set k (vi z) = fs') (K : Y p l e R s m args below meth c D ad nL cn sl Q (rq D ad fs' mm) (pc + 3) lv st) : Y p l e R s m args below meth c D ad nL cn sl Q (rq D ad fs mm) pc lv (vi z :: .ref (ad 0) :: st) :=
  y_putF C hmi (Cn := RX6) (T := TX6) (N := 33) (ci := 6) (fs := fs) k hd m_w_6 hlink rfl hk tyX6 tyX6_ok nmX6 hfin hdecl hdt rfl rfl (by rw [hlen]; exact hk) rq_0 (Y.eqh (by rw [hfs]; exact rq_put) K)
end RQ
def rho0 (pl nj nh qn : Int) : St := fun n k => if n = 0 then (if k = 0 then pl else if k = 1 then nj else if k = 2 then nh else if k = 3 then qn else 0) else 0
set_option maxHeartbeats 4000000 in
set_option maxRecDepth 100000 in
theorem n_ref {l : Launch} {D : va_G} (a sz : Nat) (ha : a < sz) (px jx hx qx0 : Int) (h1 : -2147483648 ≤ px ∧ px < 2147483648) (h2 : -2147483648 ≤ jx ∧ jx < 2147483648) (h3 : -2147483648 ≤ hx ∧ hx < 2147483648) (h4 : -2147483648 ≤ qx0 ∧ qx0 < 2147483648) : Cn l yX6_init (Cond.code yX6_init cX6_init 5 none :: tb) 1 60 23 19061 D [.ref a, vi px, vi jx, vi hx, vi qx0] a sz (.inr (6, [vi 0, vi 0, vi 0, vi 0, .null, .null, .null, .null, .null, .null, .null, .null, .null, .null, .null, .null, .null, .null, .null, .null, .null, .null, vi 0, vi 0, .null, .null, .null, .null, .null, vi 0, vi 0, vi 0, vi 0])) (fun _ => True) (fun cs => ∃ ρ : St, BEG (rho0 (max 3 (min 11 px)) (max 1 (min 12 jx)) (max 1 (min 24 hx)) (max 1 (min 2000 qx0))) ρ ∧ rc D (adRr a sz) ρ 0 = some (cs 0) ∧ (∀ n, 4 ≤ n → n ≤ 21 → rc D (adRr a sz) ρ n = some (cs (n - 3))) ∧ ∀ n, 24 ≤ n → n ≤ 28 → rc D (adRr a sz) ρ n = some (cs (n - 5))) := by
  have hall := ad_r a sz ha
  generalize hgen : adRr a sz = ad at hall ⊢
  obtain ⟨hk, hA1, hA2⟩ := hall
  have hk0 := hk
  obtain ⟨-, -, rfl, -⟩ := hk0
  refine cn_of (by decide) rfl rfl (Nat.le_of_ble_eq_true rfl) hk ?_
  intro p e s m below meth c hsz hP C hmi
  change Y _ _ _ _ _ _ _ _ _ _ _ _ _ _ _ _ _ _ [(0, .ref (ad 0)), (1, vi px), (2, vi jx), (3, vi hx), (4, vi qx0)] _
  refine Y.eqh (h' := rq D ad [vi 0, vi 0, vi 0, vi 0, .null, .null, .null, .null, .null, .null, .null, .null, .null, .null, .null, .null, .null, .null, .null, .null, .null, .null, vi 0, vi 0, .null, .null, .null, .null, .null, vi 0, vi 0, vi 0, vi 0] 4) ?_ ?_
  · funext n
    unfold hone rq
    by_cases c : n = 0
    · rw [if_pos c, if_pos c]
    · rw [if_neg c, if_neg c]
      by_cases d : n < 4
      · rw [if_pos d]
        rcases (show n = 1 ∨ n = 2 ∨ n = 3 by omega) with rfl | rfl | rfl <;> rfl
      · rw [if_neg d]
  refine y_aload_n C dX6_init_0 rfl rfl ?_
  refine y_obj C dX6_init_1 m_l_RX6_1 m_oi m_oc (Nat.le_of_ble_eq_true rfl) (Nat.le_of_ble_eq_true rfl) ?_
  refine y_aload_n C dX6_init_4 rfl rfl ?_
  refine y_sipush C (z := 2048) dX6_init_5 (by decide) ?_
  refine y_newI C 4 2048 dX6_init_8 m_aI rfl (by decide) (show 0 + 1 ≤ 23 by decide) (show 0 + 2048 ≤ 19061 by decide) (by decide) (by rw [hA1 4 (by decide) (by decide)]; omega) ?_
  refine y_rP C hmi (ty := (.array .int)) (fs' := [vi 0, vi 0, vi 0, vi 0, .ref (ad 4), .null, .null, .null, .null, .null, .null, .null, .null, .null, .null, .null, .null, .null, .null, .null, .null, .null, vi 0, vi 0, .null, .null, .null, .null, .null, vi 0, vi 0, vi 0, vi 0]) dX6_init_10 m_f_RX6_7 (by decide) (by decide) rfl rfl (by decide +kernel) rfl rfl rfl rfl rfl ?_
  refine Y.cnt (cn' := 1) (sl' := 2048) rfl rfl ?_
  refine y_aload_n C dX6_init_13 rfl rfl ?_
  refine y_sipush C (z := 2048) dX6_init_14 (by decide) ?_
  refine y_newI C 5 2048 dX6_init_17 m_aI rfl (by decide) (show 1 + 1 ≤ 23 by decide) (show 2048 + 2048 ≤ 19061 by decide) (by decide) (by rw [hA1 5 (by decide) (by decide)]; omega) ?_
  refine y_rP C hmi (ty := (.array .int)) (fs' := [vi 0, vi 0, vi 0, vi 0, .ref (ad 4), .ref (ad 5), .null, .null, .null, .null, .null, .null, .null, .null, .null, .null, .null, .null, .null, .null, .null, .null, vi 0, vi 0, .null, .null, .null, .null, .null, vi 0, vi 0, vi 0, vi 0]) dX6_init_19 m_f_RX6_13 (by decide) (by decide) rfl rfl (by decide +kernel) rfl rfl rfl rfl rfl ?_
  refine Y.cnt (cn' := 2) (sl' := 4096) rfl rfl ?_
  refine y_aload_n C dX6_init_22 rfl rfl ?_
  refine y_bipush C (z := 24) dX6_init_23 (by decide) ?_
  refine y_newZ C 6 24 dX6_init_25 m_aZ rfl (by decide) (show 2 + 1 ≤ 23 by decide) (show 4096 + 24 ≤ 19061 by decide) (by decide) (by rw [hA1 6 (by decide) (by decide)]; omega) ?_
  refine y_rP C hmi (ty := (.array .boolean)) (fs' := [vi 0, vi 0, vi 0, vi 0, .ref (ad 4), .ref (ad 5), .ref (ad 6), .null, .null, .null, .null, .null, .null, .null, .null, .null, .null, .null, .null, .null, .null, .null, vi 0, vi 0, .null, .null, .null, .null, .null, vi 0, vi 0, vi 0, vi 0]) dX6_init_27 m_f_RX6_16 (by decide) (by decide) rfl rfl (by decide +kernel) rfl rfl rfl rfl rfl ?_
  refine Y.cnt (cn' := 3) (sl' := 4120) rfl rfl ?_
  refine y_aload_n C dX6_init_30 rfl rfl ?_
  refine y_bipush C (z := 24) dX6_init_31 (by decide) ?_
  refine y_newI C 7 24 dX6_init_33 m_aI rfl (by decide) (show 3 + 1 ≤ 23 by decide) (show 4120 + 24 ≤ 19061 by decide) (by decide) (by rw [hA1 7 (by decide) (by decide)]; omega) ?_
  refine y_rP C hmi (ty := (.array .int)) (fs' := [vi 0, vi 0, vi 0, vi 0, .ref (ad 4), .ref (ad 5), .ref (ad 6), .ref (ad 7), .null, .null, .null, .null, .null, .null, .null, .null, .null, .null, .null, .null, .null, .null, vi 0, vi 0, .null, .null, .null, .null, .null, vi 0, vi 0, vi 0, vi 0]) dX6_init_35 m_f_RX6_20 (by decide) (by decide) rfl rfl (by decide +kernel) rfl rfl rfl rfl rfl ?_
  refine Y.cnt (cn' := 4) (sl' := 4144) rfl rfl ?_
  refine y_aload_n C dX6_init_38 rfl rfl ?_
  refine y_bipush C (z := 24) dX6_init_39 (by decide) ?_
  refine y_newI C 8 24 dX6_init_41 m_aI rfl (by decide) (show 4 + 1 ≤ 23 by decide) (show 4144 + 24 ≤ 19061 by decide) (by decide) (by rw [hA1 8 (by decide) (by decide)]; omega) ?_
  refine y_rP C hmi (ty := (.array .int)) (fs' := [vi 0, vi 0, vi 0, vi 0, .ref (ad 4), .ref (ad 5), .ref (ad 6), .ref (ad 7), .ref (ad 8), .null, .null, .null, .null, .null, .null, .null, .null, .null, .null, .null, .null, .null, vi 0, vi 0, .null, .null, .null, .null, .null, vi 0, vi 0, vi 0, vi 0]) dX6_init_43 m_f_RX6_23 (by decide) (by decide) rfl rfl (by decide +kernel) rfl rfl rfl rfl rfl ?_
  refine Y.cnt (cn' := 5) (sl' := 4168) rfl rfl ?_
  refine y_aload_n C dX6_init_46 rfl rfl ?_
  refine y_bipush C (z := 24) dX6_init_47 (by decide) ?_
  refine y_newI C 9 24 dX6_init_49 m_aI rfl (by decide) (show 5 + 1 ≤ 23 by decide) (show 4168 + 24 ≤ 19061 by decide) (by decide) (by rw [hA1 9 (by decide) (by decide)]; omega) ?_
  refine y_rP C hmi (ty := (.array .int)) (fs' := [vi 0, vi 0, vi 0, vi 0, .ref (ad 4), .ref (ad 5), .ref (ad 6), .ref (ad 7), .ref (ad 8), .ref (ad 9), .null, .null, .null, .null, .null, .null, .null, .null, .null, .null, .null, .null, vi 0, vi 0, .null, .null, .null, .null, .null, vi 0, vi 0, vi 0, vi 0]) dX6_init_51 m_f_RX6_26 (by decide) (by decide) rfl rfl (by decide +kernel) rfl rfl rfl rfl rfl ?_
  refine Y.cnt (cn' := 6) (sl' := 4192) rfl rfl ?_
  refine y_aload_n C dX6_init_54 rfl rfl ?_
  refine y_bipush C (z := 24) dX6_init_55 (by decide) ?_
  refine y_newI C 10 24 dX6_init_57 m_aI rfl (by decide) (show 6 + 1 ≤ 23 by decide) (show 4192 + 24 ≤ 19061 by decide) (by decide) (by rw [hA1 10 (by decide) (by decide)]; omega) ?_
  refine y_rP C hmi (ty := (.array .int)) (fs' := [vi 0, vi 0, vi 0, vi 0, .ref (ad 4), .ref (ad 5), .ref (ad 6), .ref (ad 7), .ref (ad 8), .ref (ad 9), .ref (ad 10), .null, .null, .null, .null, .null, .null, .null, .null, .null, .null, .null, vi 0, vi 0, .null, .null, .null, .null, .null, vi 0, vi 0, vi 0, vi 0]) dX6_init_59 m_f_RX6_29 (by decide) (by decide) rfl rfl (by decide +kernel) rfl rfl rfl rfl rfl ?_
  refine Y.cnt (cn' := 7) (sl' := 4216) rfl rfl ?_
  refine y_aload_n C dX6_init_62 rfl rfl ?_
  refine y_bipush C (z := 24) dX6_init_63 (by decide) ?_
  refine y_newZ C 11 24 dX6_init_65 m_aZ rfl (by decide) (show 7 + 1 ≤ 23 by decide) (show 4216 + 24 ≤ 19061 by decide) (by decide) (by rw [hA1 11 (by decide) (by decide)]; omega) ?_
  refine y_rP C hmi (ty := (.array .boolean)) (fs' := [vi 0, vi 0, vi 0, vi 0, .ref (ad 4), .ref (ad 5), .ref (ad 6), .ref (ad 7), .ref (ad 8), .ref (ad 9), .ref (ad 10), .ref (ad 11), .null, .null, .null, .null, .null, .null, .null, .null, .null, .null, vi 0, vi 0, .null, .null, .null, .null, .null, vi 0, vi 0, vi 0, vi 0]) dX6_init_67 m_f_RX6_32 (by decide) (by decide) rfl rfl (by decide +kernel) rfl rfl rfl rfl rfl ?_
  refine Y.cnt (cn' := 8) (sl' := 4240) rfl rfl ?_
  refine y_aload_n C dX6_init_70 rfl rfl ?_
  refine y_bipush C (z := 12) dX6_init_71 (by decide) ?_
  refine y_newI C 12 12 dX6_init_73 m_aI rfl (by decide) (show 8 + 1 ≤ 23 by decide) (show 4240 + 12 ≤ 19061 by decide) (by decide) (by rw [hA1 12 (by decide) (by decide)]; omega) ?_
  refine y_rP C hmi (ty := (.array .int)) (fs' := [vi 0, vi 0, vi 0, vi 0, .ref (ad 4), .ref (ad 5), .ref (ad 6), .ref (ad 7), .ref (ad 8), .ref (ad 9), .ref (ad 10), .ref (ad 11), .ref (ad 12), .null, .null, .null, .null, .null, .null, .null, .null, .null, vi 0, vi 0, .null, .null, .null, .null, .null, vi 0, vi 0, vi 0, vi 0]) dX6_init_75 m_f_RX6_35 (by decide) (by decide) rfl rfl (by decide +kernel) rfl rfl rfl rfl rfl ?_
  refine Y.cnt (cn' := 9) (sl' := 4252) rfl rfl ?_
  refine y_aload_n C dX6_init_78 rfl rfl ?_
  refine y_bipush C (z := 12) dX6_init_79 (by decide) ?_
  refine y_newI C 13 12 dX6_init_81 m_aI rfl (by decide) (show 9 + 1 ≤ 23 by decide) (show 4252 + 12 ≤ 19061 by decide) (by decide) (by rw [hA1 13 (by decide) (by decide)]; omega) ?_
  refine y_rP C hmi (ty := (.array .int)) (fs' := [vi 0, vi 0, vi 0, vi 0, .ref (ad 4), .ref (ad 5), .ref (ad 6), .ref (ad 7), .ref (ad 8), .ref (ad 9), .ref (ad 10), .ref (ad 11), .ref (ad 12), .ref (ad 13), .null, .null, .null, .null, .null, .null, .null, .null, vi 0, vi 0, .null, .null, .null, .null, .null, vi 0, vi 0, vi 0, vi 0]) dX6_init_83 m_f_RX6_38 (by decide) (by decide) rfl rfl (by decide +kernel) rfl rfl rfl rfl rfl ?_
  refine Y.cnt (cn' := 10) (sl' := 4264) rfl rfl ?_
  refine y_aload_n C dX6_init_86 rfl rfl ?_
  refine y_bipush C (z := 12) dX6_init_87 (by decide) ?_
  refine y_newI C 14 12 dX6_init_89 m_aI rfl (by decide) (show 10 + 1 ≤ 23 by decide) (show 4264 + 12 ≤ 19061 by decide) (by decide) (by rw [hA1 14 (by decide) (by decide)]; omega) ?_
  refine y_rP C hmi (ty := (.array .int)) (fs' := [vi 0, vi 0, vi 0, vi 0, .ref (ad 4), .ref (ad 5), .ref (ad 6), .ref (ad 7), .ref (ad 8), .ref (ad 9), .ref (ad 10), .ref (ad 11), .ref (ad 12), .ref (ad 13), .ref (ad 14), .null, .null, .null, .null, .null, .null, .null, vi 0, vi 0, .null, .null, .null, .null, .null, vi 0, vi 0, vi 0, vi 0]) dX6_init_91 m_f_RX6_41 (by decide) (by decide) rfl rfl (by decide +kernel) rfl rfl rfl rfl rfl ?_
  refine Y.cnt (cn' := 11) (sl' := 4276) rfl rfl ?_
  refine y_aload_n C dX6_init_94 rfl rfl ?_
  refine y_bipush C (z := 12) dX6_init_95 (by decide) ?_
  refine y_newI C 15 12 dX6_init_97 m_aI rfl (by decide) (show 11 + 1 ≤ 23 by decide) (show 4276 + 12 ≤ 19061 by decide) (by decide) (by rw [hA1 15 (by decide) (by decide)]; omega) ?_
  refine y_rP C hmi (ty := (.array .int)) (fs' := [vi 0, vi 0, vi 0, vi 0, .ref (ad 4), .ref (ad 5), .ref (ad 6), .ref (ad 7), .ref (ad 8), .ref (ad 9), .ref (ad 10), .ref (ad 11), .ref (ad 12), .ref (ad 13), .ref (ad 14), .ref (ad 15), .null, .null, .null, .null, .null, .null, vi 0, vi 0, .null, .null, .null, .null, .null, vi 0, vi 0, vi 0, vi 0]) dX6_init_99 m_f_RX6_44 (by decide) (by decide) rfl rfl (by decide +kernel) rfl rfl rfl rfl rfl ?_
  refine Y.cnt (cn' := 12) (sl' := 4288) rfl rfl ?_
  refine y_aload_n C dX6_init_102 rfl rfl ?_
  refine y_bipush C (z := 12) dX6_init_103 (by decide) ?_
  refine y_newI C 16 12 dX6_init_105 m_aI rfl (by decide) (show 12 + 1 ≤ 23 by decide) (show 4288 + 12 ≤ 19061 by decide) (by decide) (by rw [hA1 16 (by decide) (by decide)]; omega) ?_
  refine y_rP C hmi (ty := (.array .int)) (fs' := [vi 0, vi 0, vi 0, vi 0, .ref (ad 4), .ref (ad 5), .ref (ad 6), .ref (ad 7), .ref (ad 8), .ref (ad 9), .ref (ad 10), .ref (ad 11), .ref (ad 12), .ref (ad 13), .ref (ad 14), .ref (ad 15), .ref (ad 16), .null, .null, .null, .null, .null, vi 0, vi 0, .null, .null, .null, .null, .null, vi 0, vi 0, vi 0, vi 0]) dX6_init_107 m_f_RX6_47 (by decide) (by decide) rfl rfl (by decide +kernel) rfl rfl rfl rfl rfl ?_
  refine Y.cnt (cn' := 13) (sl' := 4300) rfl rfl ?_
  refine y_aload_n C dX6_init_110 rfl rfl ?_
  refine y_bipush C (z := 12) dX6_init_111 (by decide) ?_
  refine y_newL C 17 12 dX6_init_113 m_aL rfl (by decide) (show 13 + 1 ≤ 23 by decide) (show 4300 + 12 ≤ 19061 by decide) (by decide) (by rw [hA1 17 (by decide) (by decide)]; omega) ?_
  refine y_rP C hmi (ty := (.array .long)) (fs' := [vi 0, vi 0, vi 0, vi 0, .ref (ad 4), .ref (ad 5), .ref (ad 6), .ref (ad 7), .ref (ad 8), .ref (ad 9), .ref (ad 10), .ref (ad 11), .ref (ad 12), .ref (ad 13), .ref (ad 14), .ref (ad 15), .ref (ad 16), .ref (ad 17), .null, .null, .null, .null, vi 0, vi 0, .null, .null, .null, .null, .null, vi 0, vi 0, vi 0, vi 0]) dX6_init_115 m_f_RX6_50 (by decide) (by decide) rfl rfl (by decide +kernel) rfl rfl rfl rfl rfl ?_
  refine Y.cnt (cn' := 14) (sl' := 4312) rfl rfl ?_
  refine y_aload_n C dX6_init_118 rfl rfl ?_
  refine y_bipush C (z := 12) dX6_init_119 (by decide) ?_
  refine y_newI C 18 12 dX6_init_121 m_aI rfl (by decide) (show 14 + 1 ≤ 23 by decide) (show 4312 + 12 ≤ 19061 by decide) (by decide) (by rw [hA1 18 (by decide) (by decide)]; omega) ?_
  refine y_rP C hmi (ty := (.array .int)) (fs' := [vi 0, vi 0, vi 0, vi 0, .ref (ad 4), .ref (ad 5), .ref (ad 6), .ref (ad 7), .ref (ad 8), .ref (ad 9), .ref (ad 10), .ref (ad 11), .ref (ad 12), .ref (ad 13), .ref (ad 14), .ref (ad 15), .ref (ad 16), .ref (ad 17), .ref (ad 18), .null, .null, .null, vi 0, vi 0, .null, .null, .null, .null, .null, vi 0, vi 0, vi 0, vi 0]) dX6_init_123 m_f_RX6_54 (by decide) (by decide) rfl rfl (by decide +kernel) rfl rfl rfl rfl rfl ?_
  refine Y.cnt (cn' := 15) (sl' := 4324) rfl rfl ?_
  refine y_aload_n C dX6_init_126 rfl rfl ?_
  refine y_bipush C (z := 12) dX6_init_127 (by decide) ?_
  refine y_newI C 19 12 dX6_init_129 m_aI rfl (by decide) (show 15 + 1 ≤ 23 by decide) (show 4324 + 12 ≤ 19061 by decide) (by decide) (by rw [hA1 19 (by decide) (by decide)]; omega) ?_
  refine y_rP C hmi (ty := (.array .int)) (fs' := [vi 0, vi 0, vi 0, vi 0, .ref (ad 4), .ref (ad 5), .ref (ad 6), .ref (ad 7), .ref (ad 8), .ref (ad 9), .ref (ad 10), .ref (ad 11), .ref (ad 12), .ref (ad 13), .ref (ad 14), .ref (ad 15), .ref (ad 16), .ref (ad 17), .ref (ad 18), .ref (ad 19), .null, .null, vi 0, vi 0, .null, .null, .null, .null, .null, vi 0, vi 0, vi 0, vi 0]) dX6_init_131 m_f_RX6_57 (by decide) (by decide) rfl rfl (by decide +kernel) rfl rfl rfl rfl rfl ?_
  refine Y.cnt (cn' := 16) (sl' := 4336) rfl rfl ?_
  refine y_aload_n C dX6_init_134 rfl rfl ?_
  refine y_bipush C (z := 12) dX6_init_135 (by decide) ?_
  refine y_newI C 20 12 dX6_init_137 m_aI rfl (by decide) (show 16 + 1 ≤ 23 by decide) (show 4336 + 12 ≤ 19061 by decide) (by decide) (by rw [hA1 20 (by decide) (by decide)]; omega) ?_
  refine y_rP C hmi (ty := (.array .int)) (fs' := [vi 0, vi 0, vi 0, vi 0, .ref (ad 4), .ref (ad 5), .ref (ad 6), .ref (ad 7), .ref (ad 8), .ref (ad 9), .ref (ad 10), .ref (ad 11), .ref (ad 12), .ref (ad 13), .ref (ad 14), .ref (ad 15), .ref (ad 16), .ref (ad 17), .ref (ad 18), .ref (ad 19), .ref (ad 20), .null, vi 0, vi 0, .null, .null, .null, .null, .null, vi 0, vi 0, vi 0, vi 0]) dX6_init_139 m_f_RX6_60 (by decide) (by decide) rfl rfl (by decide +kernel) rfl rfl rfl rfl rfl ?_
  refine Y.cnt (cn' := 17) (sl' := 4348) rfl rfl ?_
  refine y_aload_n C dX6_init_142 rfl rfl ?_
  refine y_bipush C (z := 13) dX6_init_143 (by decide) ?_
  refine y_newI C 21 13 dX6_init_145 m_aI rfl (by decide) (show 17 + 1 ≤ 23 by decide) (show 4348 + 13 ≤ 19061 by decide) (by decide) (by rw [hA1 21 (by decide) (by decide)]; omega) ?_
  refine y_rP C hmi (ty := (.array .int)) (fs' := [vi 0, vi 0, vi 0, vi 0, .ref (ad 4), .ref (ad 5), .ref (ad 6), .ref (ad 7), .ref (ad 8), .ref (ad 9), .ref (ad 10), .ref (ad 11), .ref (ad 12), .ref (ad 13), .ref (ad 14), .ref (ad 15), .ref (ad 16), .ref (ad 17), .ref (ad 18), .ref (ad 19), .ref (ad 20), .ref (ad 21), vi 0, vi 0, .null, .null, .null, .null, .null, vi 0, vi 0, vi 0, vi 0]) dX6_init_147 m_f_RX6_63 (by decide) (by decide) rfl rfl (by decide +kernel) rfl rfl rfl rfl rfl ?_
  refine Y.eqh rq_gap ?_
  refine Y.cnt (cn' := 18) (sl' := 4361) rfl rfl ?_
  refine y_aload_n C dX6_init_150 rfl rfl ?_
  refine y_sipush C (z := 4200) dX6_init_151 (by decide) ?_
  refine y_newI C 24 4200 dX6_init_154 m_aI rfl (by decide) (show 18 + 1 ≤ 23 by decide) (show 4361 + 4200 ≤ 19061 by decide) (by decide) (by rw [hA2 24 (by decide) (by decide)]; omega) ?_
  refine y_rP C hmi (ty := (.array .int)) (fs' := [vi 0, vi 0, vi 0, vi 0, .ref (ad 4), .ref (ad 5), .ref (ad 6), .ref (ad 7), .ref (ad 8), .ref (ad 9), .ref (ad 10), .ref (ad 11), .ref (ad 12), .ref (ad 13), .ref (ad 14), .ref (ad 15), .ref (ad 16), .ref (ad 17), .ref (ad 18), .ref (ad 19), .ref (ad 20), .ref (ad 21), vi 0, vi 0, .ref (ad 24), .null, .null, .null, .null, vi 0, vi 0, vi 0, vi 0]) dX6_init_156 m_f_RX6_66 (by decide) (by decide) rfl rfl (by decide +kernel) rfl rfl rfl rfl rfl ?_
  refine Y.cnt (cn' := 19) (sl' := 8561) rfl rfl ?_
  refine y_aload_n C dX6_init_159 rfl rfl ?_
  refine y_sipush C (z := 2100) dX6_init_160 (by decide) ?_
  refine y_newI C 25 2100 dX6_init_163 m_aI rfl (by decide) (show 19 + 1 ≤ 23 by decide) (show 8561 + 2100 ≤ 19061 by decide) (by decide) (by rw [hA2 25 (by decide) (by decide)]; omega) ?_
  refine y_rP C hmi (ty := (.array .int)) (fs' := [vi 0, vi 0, vi 0, vi 0, .ref (ad 4), .ref (ad 5), .ref (ad 6), .ref (ad 7), .ref (ad 8), .ref (ad 9), .ref (ad 10), .ref (ad 11), .ref (ad 12), .ref (ad 13), .ref (ad 14), .ref (ad 15), .ref (ad 16), .ref (ad 17), .ref (ad 18), .ref (ad 19), .ref (ad 20), .ref (ad 21), vi 0, vi 0, .ref (ad 24), .ref (ad 25), .null, .null, .null, vi 0, vi 0, vi 0, vi 0]) dX6_init_165 m_f_RX6_69 (by decide) (by decide) rfl rfl (by decide +kernel) rfl rfl rfl rfl rfl ?_
  refine Y.cnt (cn' := 20) (sl' := 10661) rfl rfl ?_
  refine y_aload_n C dX6_init_168 rfl rfl ?_
  refine y_sipush C (z := 4200) dX6_init_169 (by decide) ?_
  refine y_newI C 26 4200 dX6_init_172 m_aI rfl (by decide) (show 20 + 1 ≤ 23 by decide) (show 10661 + 4200 ≤ 19061 by decide) (by decide) (by rw [hA2 26 (by decide) (by decide)]; omega) ?_
  refine y_rP C hmi (ty := (.array .int)) (fs' := [vi 0, vi 0, vi 0, vi 0, .ref (ad 4), .ref (ad 5), .ref (ad 6), .ref (ad 7), .ref (ad 8), .ref (ad 9), .ref (ad 10), .ref (ad 11), .ref (ad 12), .ref (ad 13), .ref (ad 14), .ref (ad 15), .ref (ad 16), .ref (ad 17), .ref (ad 18), .ref (ad 19), .ref (ad 20), .ref (ad 21), vi 0, vi 0, .ref (ad 24), .ref (ad 25), .ref (ad 26), .null, .null, vi 0, vi 0, vi 0, vi 0]) dX6_init_174 m_f_RX6_72 (by decide) (by decide) rfl rfl (by decide +kernel) rfl rfl rfl rfl rfl ?_
  refine Y.cnt (cn' := 21) (sl' := 14861) rfl rfl ?_
  refine y_aload_n C dX6_init_177 rfl rfl ?_
  refine y_sipush C (z := 2100) dX6_init_178 (by decide) ?_
  refine y_newI C 27 2100 dX6_init_181 m_aI rfl (by decide) (show 21 + 1 ≤ 23 by decide) (show 14861 + 2100 ≤ 19061 by decide) (by decide) (by rw [hA2 27 (by decide) (by decide)]; omega) ?_
  refine y_rP C hmi (ty := (.array .int)) (fs' := [vi 0, vi 0, vi 0, vi 0, .ref (ad 4), .ref (ad 5), .ref (ad 6), .ref (ad 7), .ref (ad 8), .ref (ad 9), .ref (ad 10), .ref (ad 11), .ref (ad 12), .ref (ad 13), .ref (ad 14), .ref (ad 15), .ref (ad 16), .ref (ad 17), .ref (ad 18), .ref (ad 19), .ref (ad 20), .ref (ad 21), vi 0, vi 0, .ref (ad 24), .ref (ad 25), .ref (ad 26), .ref (ad 27), .null, vi 0, vi 0, vi 0, vi 0]) dX6_init_183 m_f_RX6_75 (by decide) (by decide) rfl rfl (by decide +kernel) rfl rfl rfl rfl rfl ?_
  refine Y.cnt (cn' := 22) (sl' := 16961) rfl rfl ?_
  refine y_aload_n C dX6_init_186 rfl rfl ?_
  refine y_sipush C (z := 2100) dX6_init_187 (by decide) ?_
  refine y_newI C 28 2100 dX6_init_190 m_aI rfl (by decide) (show 22 + 1 ≤ 23 by decide) (show 16961 + 2100 ≤ 19061 by decide) (by decide) (by rw [hA2 28 (by decide) (by decide)]; omega) ?_
  refine y_rP C hmi (ty := (.array .int)) (fs' := [vi 0, vi 0, vi 0, vi 0, .ref (ad 4), .ref (ad 5), .ref (ad 6), .ref (ad 7), .ref (ad 8), .ref (ad 9), .ref (ad 10), .ref (ad 11), .ref (ad 12), .ref (ad 13), .ref (ad 14), .ref (ad 15), .ref (ad 16), .ref (ad 17), .ref (ad 18), .ref (ad 19), .ref (ad 20), .ref (ad 21), vi 0, vi 0, .ref (ad 24), .ref (ad 25), .ref (ad 26), .ref (ad 27), .ref (ad 28), vi 0, vi 0, vi 0, vi 0]) dX6_init_192 m_f_RX6_78 (by decide) (by decide) rfl rfl (by decide +kernel) rfl rfl rfl rfl rfl ?_
  refine Y.cnt (cn' := 23) (sl' := 19061) rfl rfl ?_
  refine y_aload_n C dX6_init_195 rfl rfl ?_
  refine y_iload_n C dX6_init_196 rfl rfl ?_
  refine y_iconst C dX6_init_197 ?_
  refine y_bipush C (z := 11) dX6_init_198 (by decide) ?_
  refine y_callS C (nn := 3) (As := [vi px, vi 3, vi 11]) (r_withinG _ px 3 11 (by omega) (by decide) (by decide) (by decide)) g_RX6_81 rfl (by decide +kernel) ⟨by decide, by decide⟩ ⟨Nat.le_refl 23, Nat.le_refl _⟩ rfl rfl (Nat.le_of_ble_eq_true rfl) dX6_init_200 (fun v h1 hp1 => ?_)
  obtain ⟨rfl, rfl⟩ := hp1
  refine y_rS C hmi (k := 0) (fs' := [vi (max 3 (min 11 px)), vi 0, vi 0, vi 0, .ref (ad 4), .ref (ad 5), .ref (ad 6), .ref (ad 7), .ref (ad 8), .ref (ad 9), .ref (ad 10), .ref (ad 11), .ref (ad 12), .ref (ad 13), .ref (ad 14), .ref (ad 15), .ref (ad 16), .ref (ad 17), .ref (ad 18), .ref (ad 19), .ref (ad 20), .ref (ad 21), vi 0, vi 0, .ref (ad 24), .ref (ad 25), .ref (ad 26), .ref (ad 27), .ref (ad 28), vi 0, vi 0, vi 0, vi 0]) dX6_init_203 m_f_RX6_85 (by decide) rfl rfl (by decide +kernel) rfl rfl ?_
  refine y_aload_n C dX6_init_206 rfl rfl ?_
  refine y_iload_n C dX6_init_207 rfl rfl ?_
  refine y_iconst C dX6_init_208 ?_
  refine y_bipush C (z := 12) dX6_init_209 (by decide) ?_
  refine y_callS C (nn := 3) (As := [vi jx, vi 1, vi 12]) (r_withinG _ jx 1 12 (by omega) (by decide) (by decide) (by decide)) g_RX6_81 rfl (by decide +kernel) ⟨by decide, by decide⟩ ⟨Nat.le_refl 23, Nat.le_refl _⟩ rfl rfl (Nat.le_of_ble_eq_true rfl) dX6_init_211 (fun v h1 hp1 => ?_)
  obtain ⟨rfl, rfl⟩ := hp1
  refine y_rS C hmi (k := 1) (fs' := [vi (max 3 (min 11 px)), vi (max 1 (min 12 jx)), vi 0, vi 0, .ref (ad 4), .ref (ad 5), .ref (ad 6), .ref (ad 7), .ref (ad 8), .ref (ad 9), .ref (ad 10), .ref (ad 11), .ref (ad 12), .ref (ad 13), .ref (ad 14), .ref (ad 15), .ref (ad 16), .ref (ad 17), .ref (ad 18), .ref (ad 19), .ref (ad 20), .ref (ad 21), vi 0, vi 0, .ref (ad 24), .ref (ad 25), .ref (ad 26), .ref (ad 27), .ref (ad 28), vi 0, vi 0, vi 0, vi 0]) dX6_init_214 m_f_RX6_89 (by decide) rfl rfl (by decide +kernel) rfl rfl ?_
  refine y_aload_n C dX6_init_217 rfl rfl ?_
  refine y_iload_n C dX6_init_218 rfl rfl ?_
  refine y_iconst C dX6_init_219 ?_
  refine y_bipush C (z := 24) dX6_init_220 (by decide) ?_
  refine y_callS C (nn := 3) (As := [vi hx, vi 1, vi 24]) (r_withinG _ hx 1 24 (by omega) (by decide) (by decide) (by decide)) g_RX6_81 rfl (by decide +kernel) ⟨by decide, by decide⟩ ⟨Nat.le_refl 23, Nat.le_refl _⟩ rfl rfl (Nat.le_of_ble_eq_true rfl) dX6_init_222 (fun v h1 hp1 => ?_)
  obtain ⟨rfl, rfl⟩ := hp1
  refine y_rS C hmi (k := 2) (fs' := [vi (max 3 (min 11 px)), vi (max 1 (min 12 jx)), vi (max 1 (min 24 hx)), vi 0, .ref (ad 4), .ref (ad 5), .ref (ad 6), .ref (ad 7), .ref (ad 8), .ref (ad 9), .ref (ad 10), .ref (ad 11), .ref (ad 12), .ref (ad 13), .ref (ad 14), .ref (ad 15), .ref (ad 16), .ref (ad 17), .ref (ad 18), .ref (ad 19), .ref (ad 20), .ref (ad 21), vi 0, vi 0, .ref (ad 24), .ref (ad 25), .ref (ad 26), .ref (ad 27), .ref (ad 28), vi 0, vi 0, vi 0, vi 0]) dX6_init_225 m_f_RX6_92 (by decide) rfl rfl (by decide +kernel) rfl rfl ?_
  refine y_aload_n C dX6_init_228 rfl rfl ?_
  refine y_iload C dX6_init_229 rfl ?_
  refine y_iconst C dX6_init_231 ?_
  refine y_sipush C (z := 2000) dX6_init_232 (by decide) ?_
  refine y_callS C (nn := 3) (As := [vi qx0, vi 1, vi 2000]) (r_withinG _ qx0 1 2000 (by omega) (by decide) (by decide) (by decide)) g_RX6_81 rfl (by decide +kernel) ⟨by decide, by decide⟩ ⟨Nat.le_refl 23, Nat.le_refl _⟩ rfl rfl (Nat.le_of_ble_eq_true rfl) dX6_init_235 (fun v h1 hp1 => ?_)
  obtain ⟨rfl, rfl⟩ := hp1
  refine y_rS C hmi (k := 3) (fs' := [vi (max 3 (min 11 px)), vi (max 1 (min 12 jx)), vi (max 1 (min 24 hx)), vi (max 1 (min 2000 qx0)), .ref (ad 4), .ref (ad 5), .ref (ad 6), .ref (ad 7), .ref (ad 8), .ref (ad 9), .ref (ad 10), .ref (ad 11), .ref (ad 12), .ref (ad 13), .ref (ad 14), .ref (ad 15), .ref (ad 16), .ref (ad 17), .ref (ad 18), .ref (ad 19), .ref (ad 20), .ref (ad 21), vi 0, vi 0, .ref (ad 24), .ref (ad 25), .ref (ad 26), .ref (ad 27), .ref (ad 28), vi 0, vi 0, vi 0, vi 0]) dX6_init_238 m_f_RX6_95 (by decide) rfl rfl (by decide +kernel) rfl rfl ?_
  refine Y.eqh (h' := rc D ad (rho0 (max 3 (min 11 px)) (max 1 (min 12 jx)) (max 1 (min 24 hx)) (max 1 (min 2000 qx0)))) ?_ ?_
  · funext n
    by_cases c : n = 0
    · subst c; rfl
    · unfold rq
      rw [if_neg c]
      by_cases d : n < 29
      · rw [if_pos d]
        refine (rc_ext ?_).symm
        funext k
        unfold rho0
        rw [if_neg c]
      · rw [if_neg d]
        obtain ⟨n', rfl⟩ : ∃ n', n = n' + 29 := ⟨n - 29, by omega⟩
        rfl
  refine y_aload_n C dX6_init_241 rfl rfl ?_
  refine y_callV C (ci := 6) (nn := 0) (r_begin _) g_RX6_98 rfl (by decide +kernel) ⟨by decide, by decide⟩ ⟨Nat.le_refl 23, Nat.le_refl _⟩ rfl rfl rfl rfl rfl (Nat.le_of_ble_eq_true rfl) dX6_init_242 (fun v h1 hp1 => ?_)
  obtain ⟨ρ, rfl, rfl, hB⟩ := hp1
  have some_of : ∀ n, (n = 0 ∨ (4 ≤ n ∧ n ≤ 21) ∨ (24 ≤ n ∧ n ≤ 28)) → ∃ x, rc D ad ρ n = some x := fun n hn => by
    match n, hn with
    | 0, _ => exact ⟨_, rfl⟩
    | 1, h => omega
    | 2, h => omega
    | 3, h => omega
    | 4, _ => exact ⟨_, rfl⟩
    | 5, _ => exact ⟨_, rfl⟩
    | 6, _ => exact ⟨_, rfl⟩
    | 7, _ => exact ⟨_, rfl⟩
    | 8, _ => exact ⟨_, rfl⟩
    | 9, _ => exact ⟨_, rfl⟩
    | 10, _ => exact ⟨_, rfl⟩
    | 11, _ => exact ⟨_, rfl⟩
    | 12, _ => exact ⟨_, rfl⟩
    | 13, _ => exact ⟨_, rfl⟩
    | 14, _ => exact ⟨_, rfl⟩
    | 15, _ => exact ⟨_, rfl⟩
    | 16, _ => exact ⟨_, rfl⟩
    | 17, _ => exact ⟨_, rfl⟩
    | 18, _ => exact ⟨_, rfl⟩
    | 19, _ => exact ⟨_, rfl⟩
    | 20, _ => exact ⟨_, rfl⟩
    | 21, _ => exact ⟨_, rfl⟩
    | 22, h => omega
    | 23, h => omega
    | 24, _ => exact ⟨_, rfl⟩
    | 25, _ => exact ⟨_, rfl⟩
    | 26, _ => exact ⟨_, rfl⟩
    | 27, _ => exact ⟨_, rfl⟩
    | 28, _ => exact ⟨_, rfl⟩
    | n + 29, h => omega
  have hcs : ∀ n x, rc D ad ρ n = some x → (rc D ad ρ n).getD (.inl (D.1 10, 0, .inl (fun _ => iI 0))) = x := fun n x e => by rw [e]; rfl
  refine y_vret C hsz hk dX6_init_245 ⟨fun i => (rc D ad ρ (if i = 0 then 0 else if i ≤ 18 then i + 3 else i + 5)).getD (.inl (D.1 10, 0, .inl (fun _ => iI 0))), ⟨ρ, hB, ?_, fun n n1 n2 => ?_, fun n n1 n2 => ?_⟩, ?_, fun i hi => ?_⟩
  · obtain ⟨x, e⟩ := some_of 0 (Or.inl rfl)
    show _ = some ((rc D ad ρ 0).getD _)
    rw [hcs 0 x e]; exact e
  · obtain ⟨x, e⟩ := some_of n (Or.inr (Or.inl ⟨n1, n2⟩))
    dsimp only
    rw [if_neg (by omega), if_pos (by omega), show n - 3 + 3 = n by omega, hcs n x e]; exact e
  · obtain ⟨x, e⟩ := some_of n (Or.inr (Or.inr ⟨n1, n2⟩))
    dsimp only
    rw [if_neg (by omega), if_neg (by omega), show n - 5 + 5 = n by omega, hcs n x e]; exact e
  · obtain ⟨x, e⟩ := some_of 0 (Or.inl rfl)
    show _ = some ((rc D ad ρ 0).getD _)
    rw [hcs 0 x e]; exact e
  · by_cases c : i < 18
    · obtain ⟨x, e⟩ := some_of (i + 4) (Or.inr (Or.inl ⟨by omega, by omega⟩))
      refine ⟨i + 4, ?_, by rw [hA1 (i + 4) (by omega) (by omega)]; omega⟩
      dsimp only
      rw [if_neg (by omega), if_pos (by omega), show i + 1 + 3 = i + 4 by omega, hcs _ x e]; exact e
    · obtain ⟨x, e⟩ := some_of (i + 6) (Or.inr (Or.inr ⟨by omega, by omega⟩))
      refine ⟨i + 6, ?_, by rw [hA2 (i + 6) (by omega) (by omega)]; omega⟩
      dsimp only
      rw [if_neg (by omega), if_neg (by omega), show i + 1 + 5 = i + 6 by omega, hcs _ x e]; exact e
