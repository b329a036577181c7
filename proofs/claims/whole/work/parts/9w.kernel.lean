/-! CONSTRUCTORS: the kernel -/
def adKr (a sz J Hn : Nat) : Nat → Nat := fun n => if n = 0 then a else if 1 ≤ n ∧ n ≤ 5 then sz + (n - 1) else if n = 7 then sz + 5 else if n = 6 then sz + 6 + J else if 8 ≤ n ∧ n ≤ 9 then sz + 7 + J + Hn + (n - 8) else if 40 ≤ n ∧ n < 40 + J then sz + 6 + (n - 40) else if 10 ≤ n ∧ n < 10 + Hn then sz + 7 + J + (n - 10) else sz + 1000 + n
/-- what the kernel's naming of addresses keeps -/
def adS (ad : Nat → Nat) (a sz J Hn : Nat) : Prop := adK ad 0 a sz ∧ (∀ n, 1 ≤ n → n ≤ 5 → ad n = sz + (n - 1)) ∧ ad 7 = sz + 5 ∧ ad 6 = sz + 6 + J ∧ ad 8 = sz + 7 + J + Hn ∧ ad 9 = sz + 8 + J + Hn ∧ (∀ j, j < J → ad (40 + j) = sz + 6 + j) ∧ ∀ h, h < Hn → ad (10 + h) = sz + 7 + J + h
set_option maxHeartbeats 4000000 in
theorem ad_ker (a sz J Hn : Nat) (ha : a < sz) (hJ : J ≤ 12) (hH : Hn ≤ 24) : adS (adKr a sz J Hn) a sz J Hn := by
  refine ⟨⟨fun i j hi hj e => ?_, by decide, rfl, fun n hn => ?_⟩, fun n h1 h2 => ?_, rfl, rfl, ?_, ?_, fun j hj => ?_, fun h hh => ?_⟩
  · unfold adKr at e
    repeat' split at e
    all_goals omega
  · unfold adKr
    repeat' split
    all_goals omega
  · unfold adKr
    rw [if_neg (by omega), if_pos (by omega)]
  · unfold adKr
    rw [if_neg (by omega), if_neg (by omega), if_neg (by omega), if_neg (by omega), if_pos (by omega)]; omega
  · unfold adKr
    rw [if_neg (by omega), if_neg (by omega), if_neg (by omega), if_neg (by omega), if_pos (by omega)]; omega
  · unfold adKr
    rw [if_neg (by omega), if_neg (by omega), if_neg (by omega), if_neg (by omega), if_neg (by omega), if_pos (by omega)]; omega
  · unfold adKr
    rw [if_neg (by omega), if_neg (by omega), if_neg (by omega), if_neg (by omega), if_neg (by omega), if_neg (by omega), if_pos (by omega)]; omega
/-- the kernel's cells while they are made -/
def kq (base : Nat → Option va_E) (f6 f7 f8 f9 : Option va_E) (nj nh : Nat) : HM := fun n => if n < 6 then base n else if n = 6 then f6 else if n = 7 then f7 else if n = 8 then f8 else if n = 9 then f9 else if 10 ≤ n ∧ n < 10 + nh then some (.inr (2, [vi 0, vi 0, vi 0, vi 0, vi 0, vi 0])) else if 40 ≤ n ∧ n < 40 + nj then some (.inr (0, [vi (-1), vi 0, vi 0, vi 0, vi 0, vi (-1), vi 0, vi 0, vi (-1), vi (-1), vl 0])) else none
theorem kq_lo {base : Nat → Option va_E} {f6 f7 f8 f9 : Option va_E} {nj nh n : Nat} (h : n < 6) : kq base f6 f7 f8 f9 nj nh n = base n := by unfold kq; rw [if_pos h]
theorem kq_put {base : Nat → Option va_E} {f6 f7 f8 f9 : Option va_E} {nj nh : Nat} {x : va_E} : hset (kq base f6 f7 f8 f9 nj nh) 0 x = kq (hset base 0 x) f6 f7 f8 f9 nj nh := by
  funext n
  by_cases c : n = 0
  · rw [c, hset_s, kq_lo (by decide), hset_s]
  · rw [hset_n c]
    unfold kq
    rw [hset_n c]
abbrev jrr (D : va_G) (ad : Nat → Nat) (J i : Nat) : va_E := .inl (D.1 13, J, .inr (.inr (.inr (.inr (fun j => if j < i then some (ad (40 + j)) else none)))))
abbrev nrr (D : va_G) (ad : Nat → Nat) (Hn i : Nat) : va_E := .inl (D.1 14, Hn, .inr (.inr (.inr (.inr (fun j => if j < i then some (ad (10 + j)) else none)))))
theorem kq_job {D : va_G} {ad : Nat → Nat} {base : Nat → Option va_E} {f6 f8 f9 : Option va_E} {i nh J : Nat} {x : va_E} (hh : nh ≤ 24) : hset (hset (hset (kq base f6 (some (jrr D ad J i)) f8 f9 i nh) (40 + i) x) (40 + i) (.inr (0, [vi (-1), vi 0, vi 0, vi 0, vi 0, vi (-1), vi 0, vi 0, vi (-1), vi (-1), vl 0]))) 7 (.inl (D.1 13, J, .inr (.inr (.inr (.inr (va_up (fun j => if j < i then some (ad (40 + j)) else none) i (some (ad (40 + i))))))))) = kq base f6 (some (jrr D ad J (i + 1))) f8 f9 (i + 1) nh := by
  funext n
  by_cases c : n = 7
  · rw [c, hset_s]
    unfold kq
    rw [if_neg (by decide), if_neg (by decide), if_pos rfl]
    congr 1
    unfold jrr
    congr 6
    apply congrArg
    funext j
    unfold va_up
    by_cases d : j = i
    · rw [if_pos d, if_pos (by omega), d]
    · rw [if_neg d]
      dsimp only
      by_cases d2 : j < i
      · rw [if_pos d2, if_pos (by omega)]
      · rw [if_neg d2, if_neg (by omega)]
  · rw [hset_n c]
    by_cases d : n = 40 + i
    · rw [d, hset_s]
      unfold kq
      rw [if_neg (by omega), if_neg (by omega), if_neg (by omega), if_neg (by omega), if_neg (by omega), if_neg (by omega), if_pos (by omega)]
    · rw [hset_n d, hset_n d]
      unfold kq
      rw [if_neg c, if_neg c]
      by_cases e : 40 ≤ n ∧ n < 40 + i
      · rw [if_pos e, if_pos (show 40 ≤ n ∧ n < 40 + (i + 1) by omega)]
      · rw [if_neg e, if_neg (show ¬ (40 ≤ n ∧ n < 40 + (i + 1)) by omega)]
theorem kq_num {D : va_G} {ad : Nat → Nat} {base : Nat → Option va_E} {f7 f8 f9 : Option va_E} {i nj Hn : Nat} {x : va_E} (hi : i < 24) : hset (hset (hset (kq base (some (nrr D ad Hn i)) f7 f8 f9 nj i) (10 + i) x) (10 + i) (.inr (2, [vi 0, vi 0, vi 0, vi 0, vi 0, vi 0]))) 6 (.inl (D.1 14, Hn, .inr (.inr (.inr (.inr (va_up (fun j => if j < i then some (ad (10 + j)) else none) i (some (ad (10 + i))))))))) = kq base (some (nrr D ad Hn (i + 1))) f7 f8 f9 nj (i + 1) := by
  funext n
  by_cases c : n = 6
  · rw [c, hset_s]
    unfold kq
    rw [if_neg (by decide), if_pos rfl]
    congr 1
    unfold nrr
    congr 6
    apply congrArg
    funext j
    unfold va_up
    by_cases d : j = i
    · rw [if_pos d, if_pos (by omega), d]
    · rw [if_neg d]
      dsimp only
      by_cases d2 : j < i
      · rw [if_pos d2, if_pos (by omega)]
      · rw [if_neg d2, if_neg (by omega)]
  · rw [hset_n c]
    by_cases d : n = 10 + i
    · rw [d, hset_s]
      unfold kq
      rw [if_neg (by omega), if_neg (by omega), if_neg (by omega), if_neg (by omega), if_neg (by omega), if_pos (by omega)]
    · rw [hset_n d, hset_n d]
      unfold kq
      rw [if_neg c, if_neg c]
      by_cases e : 10 ≤ n ∧ n < 10 + i
      · rw [if_pos e, if_pos (show 10 ≤ n ∧ n < 10 + (i + 1) by omega)]
      · rw [if_neg e, if_neg (show ¬ (10 ≤ n ∧ n < 10 + (i + 1)) by omega)]
def PKr (U : State) : Prop := va_Nw (.methodLinkNest RX5 41 yX0_init RX5) U ∧ va_Nw (.methodLinkNest RX5 48 yX2_init RX5) U ∧ va_AO RX0 U ∧ va_AO RX2 U
set_option maxHeartbeats 4000000 in
set_option maxRecDepth 100000 in
theorem yp_jobs {p : Program} {l : Launch} {e : Env} {R : Room} {s : State} {m : MethodId} {args : Array Value} {below : List Frame} {meth : Method} {c : Code} {D : va_G} {ad : Nat → Nat} {Q : State → Prop} (C : Fx p s m args meth c D ad cX5_init 6 none yX5_init.cls tb) (base : Nat → Option va_E)  (fs : List Value) (hb0 : base 0 = some (.inr (5, fs))) (hf3 : fs[3]? = some (.ref (ad 7))) (NN : Nat) (hN : 1 ≤ NN ∧ NN ≤ 12) (hPk : PKr s) (px jx hx qx0 : Int) (c0 s0 : Nat) (hR : 2 ≤ R.frames ∧ 100 ≤ R.locals) (hc0 : c0 + NN ≤ R.cells) (hs0 : s0 + 11 * NN ≤ R.slots) (hadr : ∀ i, i < NN → ad (40 + i) = s.heap.size + (c0 + i)) (K : ∀ lv, lk 0 lv = some (.ref (ad 0)) → lk 3 lv = some (vi hx) → lk 4 lv = some (vi qx0) → lv = [(5, vi (NN : Int)), (0, .ref (ad 0)), (1, vi px), (2, vi jx), (3, vi hx), (4, vi qx0)] → Y p l e R s m args below meth c D ad 6 (c0 + NN) (s0 + 11 * NN) Q (kq base none (some (jrr D ad NN NN)) none none NN 0) 87 lv []) (n i : Nat) (hi : i ≤ NN) (hn : NN - i < n) : Y p l e R s m args below meth c D ad 6 (c0 + i) (s0 + 11 * i) Q (kq base none (some (jrr D ad NN i)) none none i 0) 57 [(5, vi (i : Int)), (0, .ref (ad 0)), (1, vi px), (2, vi jx), (3, vi hx), (4, vi qx0)] [] := by
  induction n generalizing i with
  | zero => omega
  | succ n ih =>
  refine y_iload C dX5_init_57 rfl ?_
  refine y_aload_n C dX5_init_59 rfl rfl ?_
  refine y_get C (Cn := RX5) (T := TX5) (N := 9) (ci := 5) 3 dX5_init_60 m_w_5 m_f_RX5_37 rfl (by decide) (by rw [kq_lo (by decide)]; exact hb0) hf3 ?_
  refine y_alen C 3 (N := NN) dX5_init_63 (n := 7) rfl rfl ?_
  refine y_icmp_ge (tgt := 87) C dX5_init_64 (by decide) (by omega) (by omega) (fun c1 => ?_) (fun c1 => ?_)
  · obtain rfl : i = NN := by omega
    exact K _ rfl rfl rfl rfl
  · refine y_aload_n C dX5_init_67 rfl rfl ?_
    refine y_get C (Cn := RX5) (T := TX5) (N := 9) (ci := 5) 3 dX5_init_68 m_w_5 m_f_RX5_37 rfl (by decide) (by rw [kq_lo (by decide)]; exact hb0) hf3 ?_
    refine y_iload C dX5_init_71 rfl ?_
    refine y_new C (Cn := RX0) (T := TX0) (N := 11) (ci := 0) (40 + i) (fs := [vi 0, vi 0, vi 0, vi 0, vi 0, vi 0, vi 0, vi 0, vi 0, vi 0, vl 0]) dX5_init_73 m_w_0 tyX0 tyX0_ok m_cl_RX5_35 m_in_RX5_35 m_n_RX0 rfl (by decide) (by omega) (by omega) (by omega) (hadr i (by omega)) ?_
    refine y_dup C dX5_init_76 rfl ?_
    refine y_callN C (nn := 0) (k0 := 40 + i) (ns := []) (host := RX5) (n_job (ad (40 + i)) _ (by rw [hadr i (by omega)]; omega)) (fun _ _ _ _ _ => trivial) (fun _ _ => trivial) (gi m_c_yX0_init) rfl m_n_RX0 hPk.1 m_i_yX0_init rfl (by decide +kernel) ⟨by omega, by omega⟩ ⟨by omega, by omega⟩ (by rw [hset_s]) rfl List.nodup_nil List.not_mem_nil (fun j n hj => by cases hj) rfl rfl (Nat.le_of_ble_eq_true rfl) dX5_init_77 (fun cs hcs => ?_)
    show Y _ _ _ _ _ _ _ _ _ _ _ _ _ _ _ _ (hset (hset _ _ _) _ (cs 0)) _ _ _
    rw [hcs]
    refine y_ast C 3 0 (r := (RX0, TX0, 11)) (n := 7) (nv0 := 40 + i) (N := NN) dX5_init_80 (by rw [hset_n (by omega), hset_n (by omega)]; rfl) (by rw [hset_s]) rfl rfl (by omega) (by omega) ?_
    rw [Int.toNat_natCast]
    refine Y.eqh (kq_job (by decide)) ?_
    refine y_iinc C (lv' := [(5, _), (0, _), (1, _), (2, _), (3, _), (4, _)]) dX5_init_81 rfl (by decide) rfl ?_
    refine y_goto (tgt := 57) C dX5_init_84 (by decide) ?_
    rw [show (i : Int) + 1 = ((i + 1 : Nat) : Int) by omega]
    refine Y.cnt (cn' := c0 + (i + 1)) (sl' := s0 + 11 * (i + 1)) (by omega) (by omega) ?_
    exact ih (i + 1) (by omega) (by omega)
set_option maxHeartbeats 4000000 in
set_option maxRecDepth 100000 in
theorem yp_nums {p : Program} {l : Launch} {e : Env} {R : Room} {s : State} {m : MethodId} {args : Array Value} {below : List Frame} {meth : Method} {c : Code} {D : va_G} {ad : Nat → Nat} {Q : State → Prop} (C : Fx p s m args meth c D ad cX5_init 6 none yX5_init.cls tb) (base : Nat → Option va_E) (f7 : Option va_E) (nj : Nat) (fs : List Value) (hb0 : base 0 = some (.inr (5, fs))) (hf2 : fs[2]? = some (.ref (ad 6))) (NN : Nat) (hN : 1 ≤ NN ∧ NN ≤ 24) (hPk : PKr s) (px jx hx qx0 : Int) (c0 s0 : Nat) (hR : 2 ≤ R.frames ∧ 100 ≤ R.locals) (hc0 : c0 + NN ≤ R.cells) (hs0 : s0 + 6 * NN ≤ R.slots) (hadr : ∀ i, i < NN → ad (10 + i) = s.heap.size + (c0 + i)) (K : ∀ lv, lk 0 lv = some (.ref (ad 0)) → lk 3 lv = some (vi hx) → lk 4 lv = some (vi qx0) → lv = [(5, vi (NN : Int)), (0, .ref (ad 0)), (1, vi px), (2, vi jx), (3, vi hx), (4, vi qx0)] → Y p l e R s m args below meth c D ad 6 (c0 + NN) (s0 + 6 * NN) Q (kq base (some (nrr D ad NN NN)) f7 none none nj NN) 134 lv []) (n i : Nat) (hi : i ≤ NN) (hn : NN - i < n) : Y p l e R s m args below meth c D ad 6 (c0 + i) (s0 + 6 * i) Q (kq base (some (nrr D ad NN i)) f7 none none nj i) 104 [(5, vi (i : Int)), (0, .ref (ad 0)), (1, vi px), (2, vi jx), (3, vi hx), (4, vi qx0)] [] := by
  induction n generalizing i with
  | zero => omega
  | succ n ih =>
  refine y_iload C dX5_init_104 rfl ?_
  refine y_aload_n C dX5_init_106 rfl rfl ?_
  refine y_get C (Cn := RX5) (T := TX5) (N := 9) (ci := 5) 2 dX5_init_107 m_w_5 m_f_RX5_44 rfl (by decide) (by rw [kq_lo (by decide)]; exact hb0) hf2 ?_
  refine y_alen C 4 (N := NN) dX5_init_110 (n := 6) rfl rfl ?_
  refine y_icmp_ge (tgt := 134) C dX5_init_111 (by decide) (by omega) (by omega) (fun c1 => ?_) (fun c1 => ?_)
  · obtain rfl : i = NN := by omega
    exact K _ rfl rfl rfl rfl
  · refine y_aload_n C dX5_init_114 rfl rfl ?_
    refine y_get C (Cn := RX5) (T := TX5) (N := 9) (ci := 5) 2 dX5_init_115 m_w_5 m_f_RX5_44 rfl (by decide) (by rw [kq_lo (by decide)]; exact hb0) hf2 ?_
    refine y_iload C dX5_init_118 rfl ?_
    refine y_new C (Cn := RX2) (T := TX2) (N := 6) (ci := 2) (10 + i) (fs := [vi 0, vi 0, vi 0, vi 0, vi 0, vi 0]) dX5_init_120 m_w_2 tyX2 tyX2_ok m_cl_RX5_42 m_in_RX5_42 m_n_RX2 rfl (by decide) (by omega) (by omega) (by omega) (hadr i (by omega)) ?_
    refine y_dup C dX5_init_123 rfl ?_
    refine y_callN C (nn := 0) (k0 := 10 + i) (ns := []) (host := RX5) (n_num (ad (10 + i)) _ (by rw [hadr i (by omega)]; omega)) (fun _ _ _ _ _ => trivial) (fun _ _ => trivial) (gi m_c_yX2_init) rfl m_n_RX2 hPk.2.1 m_i_yX2_init rfl (by decide +kernel) ⟨by omega, by omega⟩ ⟨by omega, by omega⟩ (by rw [hset_s]) rfl List.nodup_nil List.not_mem_nil (fun j n hj => by cases hj) rfl rfl (Nat.le_of_ble_eq_true rfl) dX5_init_124 (fun cs hcs => ?_)
    show Y _ _ _ _ _ _ _ _ _ _ _ _ _ _ _ _ (hset (hset _ _ _) _ (cs 0)) _ _ _
    rw [hcs]
    refine y_ast C 4 2 (r := (RX2, TX2, 6)) (n := 6) (nv0 := 10 + i) (N := NN) dX5_init_127 (by rw [hset_n (by omega), hset_n (by omega)]; rfl) (by rw [hset_s]) rfl rfl (by omega) (by omega) ?_
    rw [Int.toNat_natCast]
    refine Y.eqh (kq_num (by omega)) ?_
    refine y_iinc C (lv' := [(5, _), (0, _), (1, _), (2, _), (3, _), (4, _)]) dX5_init_128 rfl (by decide) rfl ?_
    refine y_goto (tgt := 104) C dX5_init_131 (by decide) ?_
    rw [show (i : Int) + 1 = ((i + 1 : Nat) : Int) by omega]
    refine Y.cnt (cn' := c0 + (i + 1)) (sl' := s0 + 6 * (i + 1)) (by omega) (by omega) ?_
    exact ih (i + 1) (by omega) (by omega)
/-- the cells below 6 -/
def bm (D : va_G) (ad : Nat → Nat) (pl : Nat) (f3 f4 : Nat → Int) (fs : List Value) (rec : Option va_E) : Nat → Option va_E := fun n => match n with
  | 0 => some (.inr (5, fs))
  | 1 => some (.inr (1, [vi (pl : Int), .ref (ad 2), .ref (ad 3), .ref (ad 4)]))
  | 2 => some (.inl (D.1 10, 2 ^ pl, .inl (fun _ => iI 0)))
  | 3 => some (.inl (D.1 10, pl + 1, .inl (fun j => iI (f3 j))))
  | 4 => some (.inl (D.1 10, 2 ^ pl, .inl (fun j => iI (f4 j))))
  | 5 => rec
  | _ => none
section BM
variable {D : va_G} {ad : Nat → Nat} {pl : Nat} {f3 f4 : Nat → Int} {fs fs' : List Value} {rec f6 f7 f8 f9 : Option va_E} {nj nh : Nat} {x : va_E}
theorem kb_put : hset (kq (bm D ad pl f3 f4 fs rec) f6 f7 f8 f9 nj nh) 0 (.inr (5, fs')) = kq (bm D ad pl f3 f4 fs' rec) f6 f7 f8 f9 nj nh := by
  funext n
  by_cases c : n = 0
  · rw [c, hset_s]; rfl
  · rw [hset_n c]
    unfold kq
    by_cases d : n < 6
    · rw [if_pos d, if_pos d]
      rcases (show n = 1 ∨ n = 2 ∨ n = 3 ∨ n = 4 ∨ n = 5 by omega) with rfl | rfl | rfl | rfl | rfl <;> rfl
    · rw [if_neg d, if_neg d]
theorem kb_5 : hset (kq (bm D ad pl f3 f4 fs rec) f6 f7 f8 f9 nj nh) 5 x = kq (bm D ad pl f3 f4 fs (some x)) f6 f7 f8 f9 nj nh := by
  funext n
  by_cases c : n = 5
  · rw [c, hset_s]; rfl
  · rw [hset_n c]
    unfold kq
    by_cases d : n < 6
    · rw [if_pos d, if_pos d]
      rcases (show n = 0 ∨ n = 1 ∨ n = 2 ∨ n = 3 ∨ n = 4 by omega) with rfl | rfl | rfl | rfl | rfl <;> rfl
    · rw [if_neg d, if_neg d]
theorem kb_6 {base : Nat → Option va_E} : hset (kq base f6 f7 f8 f9 nj nh) 6 x = kq base (some x) f7 f8 f9 nj nh := by
  funext n
  by_cases c : n = 6
  · rw [c, hset_s]; rfl
  · rw [hset_n c]; unfold kq; rw [if_neg c, if_neg c]
theorem kb_7 {base : Nat → Option va_E} : hset (kq base f6 f7 f8 f9 nj nh) 7 x = kq base f6 (some x) f8 f9 nj nh := by
  funext n
  by_cases c : n = 7
  · rw [c, hset_s]; rfl
  · rw [hset_n c]; unfold kq; rw [if_neg c, if_neg c]
theorem kb_8 {base : Nat → Option va_E} : hset (kq base f6 f7 f8 f9 nj nh) 8 x = kq base f6 f7 (some x) f9 nj nh := by
  funext n
  by_cases c : n = 8
  · rw [c, hset_s]; rfl
  · rw [hset_n c]; unfold kq; rw [if_neg c, if_neg c]
theorem kb_9 {base : Nat → Option va_E} : hset (kq base f6 f7 f8 f9 nj nh) 9 x = kq base f6 f7 f8 (some x) nj nh := by
  funext n
  by_cases c : n = 9
  · rw [c, hset_s]; rfl
  · rw [hset_n c]; unfold kq; rw [if_neg c, if_neg c]
theorem jrr_0 {J : Nat} : (Sum.inl (D.1 13, J, .inr (.inr (.inr (.inr (fun _ => none))))) : va_E) = jrr D ad J 0 := by
  unfold jrr
  congr 6
theorem nrr_0 {J : Nat} : (Sum.inl (D.1 14, J, .inr (.inr (.inr (.inr (fun _ => none))))) : va_E) = nrr D ad J 0 := by
  unfold nrr
  congr 6
end BM
/-- the kernel's cells when it is made -/
def kfin (D : va_G) (ad : Nat → Nat) (pl J Hn : Nat) (qn : Int) (f3 f4 : Nat → Int) : HM := kq (bm D ad pl f3 f4 [.ref (ad 1), .ref (ad 5), .ref (ad 6), .ref (ad 7), .ref (ad 8), vi qn, vi 0, vi 0, vi 0] (some (.inr (4, [.ref (ad 2), vi 0, vi 0, vi 0, vl 0, vl 0])))) (some (nrr D ad Hn Hn)) (some (jrr D ad J J)) (some (.inr (3, [.ref (ad 9), vi 0, vi 0]))) (some (.inl (D.1 10, J, .inl (fun _ => iI 0)))) J Hn
def kpost (D : va_G) (a sz pl J Hn : Nat) (qn : Int) (cs : Nat → va_E) : Prop := ∃ f3 f4 : Nat → Int, (∀ b, b < 2 ^ pl → f4 b = if b = 0 then (pl : Int) else -1) ∧ (∀ k, k ≤ pl → f3 k = if k = pl then 1 else 0) ∧ kfin D (adKr a sz J Hn) pl J Hn qn f3 f4 0 = some (cs 0) ∧ ∀ i, i < 9 + J + Hn → ∃ n, kfin D (adKr a sz J Hn) pl J Hn qn f3 f4 n = some (cs (i + 1)) ∧ adKr a sz J Hn n = sz + i
set_option maxHeartbeats 4000000 in
set_option maxRecDepth 100000 in
theorem n_ker {l : Launch} {D : va_G} (a sz pl J Hn : Nat) (ha : a < sz) (px jx hx qx0 qn : Int) (h1 : -2147483648 ≤ px ∧ px < 2147483648) (h2 : -2147483648 ≤ jx ∧ jx < 2147483648) (h3 : -2147483648 ≤ hx ∧ hx < 2147483648) (h4 : -2147483648 ≤ qx0 ∧ qx0 < 2147483648) (e1 : max 3 (min 11 px) = (pl : Int)) (e2 : max 1 (min 12 jx) = (J : Int)) (e3 : max 1 (min 24 hx) = (Hn : Int)) (e4 : max 1 (min 2000 qx0) = qn) : Cn l yX5_init (Cond.code yX5_init cX5_init 6 none :: tb) 3 160 (9 + J + Hn) (4 + (2 ^ pl + (pl + 1) + 2 ^ pl) + 6 + J + 11 * J + Hn + 6 * Hn + 3 + J) D [.ref a, vi px, vi jx, vi hx, vi qx0] a sz (.inr (5, [.null, .null, .null, .null, .null, vi 0, vi 0, vi 0, vi 0])) PKr (kpost D a sz pl J Hn qn) := by
  have hpl : 3 ≤ pl ∧ pl ≤ 11 := by omega
  have hJ : 1 ≤ J ∧ J ≤ 12 := by omega
  have hH : 1 ≤ Hn ∧ Hn ≤ 24 := by omega
  have hS := ad_ker a sz J Hn ha hJ.2 hH.2
  unfold kpost
  generalize hgen : adKr a sz J Hn = ad at hS ⊢
  obtain ⟨hk, hA, hA7, hA6, hA8, hA9, hAj, hAh⟩ := hS
  have hk0 := hk
  obtain ⟨-, -, rfl, -⟩ := hk0
  have h2p : 2 ^ pl ≤ 2048 := Nat.pow_le_pow_right (n := 2) (by decide) hpl.2
  have h2n : 0 < 2 ^ pl := Nat.two_pow_pos pl
  refine cn_of (by decide) rfl rfl (Nat.le_of_ble_eq_true rfl) hk ?_
  intro p e s m below meth c hsz hP C hmi
  change Y _ _ _ _ _ _ _ _ _ _ _ _ _ _ _ _ _ _ [(0, .ref (ad 0)), (1, vi px), (2, vi jx), (3, vi hx), (4, vi qx0)] _
  have a1 := hA 1 (by decide) (by decide)
  have a2 := hA 2 (by decide) (by decide)
  have a3 := hA 3 (by decide) (by decide)
  have a4 := hA 4 (by decide) (by decide)
  have a5 := hA 5 (by decide) (by decide)
  refine y_aload_n C dX5_init_0 rfl rfl ?_
  refine y_obj C dX5_init_1 m_l_RX5_1 m_oi m_oc (Nat.le_of_ble_eq_true rfl) (Nat.le_of_ble_eq_true rfl) ?_
  refine y_aload_n C dX5_init_4 rfl rfl ?_
  refine y_new C (Cn := RX1) (T := TX1) (N := 4) (ci := 1) 1 (fs := [vi 0, .null, .null, .null]) dX5_init_5 m_w_1 tyX1 tyX1_ok m_cl_RX5_7 m_in_RX5_7 m_n_RX1 rfl (by decide) (by show _ ≤ 9 + J + Hn; omega) (by show _ ≤ 4 + (2 ^ pl + (pl + 1) + 2 ^ pl) + 6 + J + 11 * J + Hn + 6 * Hn + 3 + J; omega) (by decide) (by omega) ?_
  refine y_dup C dX5_init_8 rfl ?_
  refine y_iload_n C dX5_init_9 rfl rfl ?_
  refine y_iconst C dX5_init_10 ?_
  refine y_bipush C (z := 11) dX5_init_11 (by decide) ?_
  refine y_callS C (nn := 3) (As := [vi px, vi 3, vi 11]) (c_withinG _ px 3 11 (by omega) (by decide) (by decide)) g_RX5_9 rfl (by decide +kernel) ⟨Nat.le_of_ble_eq_true rfl, Nat.le_of_ble_eq_true rfl⟩ ⟨by show _ ≤ 9 + J + Hn; omega, by show _ ≤ 4 + (2 ^ pl + (pl + 1) + 2 ^ pl) + 6 + J + 11 * J + Hn + 6 * Hn + 3 + J; omega⟩ rfl rfl (Nat.le_of_ble_eq_true rfl) dX5_init_13 (fun v h1 hp1 => ?_)
  obtain ⟨rfl, rfl⟩ := hp1
  dsimp only [Option.toList, List.cons_append, List.nil_append]
  rw [e1]
  refine y_callI C (nn := 1) (k0 := 1) (ns := [2, 3, 4]) (n_mem (ad 1) (s.heap.size + (0 + 1)) pl (by omega) hpl) (fun _ _ _ _ _ => trivial) (fun _ _ => trivial) g_RX5_15 rfl m_n_RX1 m_l_RX5_15 m_i_yX1_init rfl (by decide +kernel) ⟨Nat.le_of_ble_eq_true rfl, Nat.le_of_ble_eq_true rfl⟩ ⟨by show _ ≤ 9 + J + Hn; omega, by show _ ≤ 4 + (2 ^ pl + (pl + 1) + 2 ^ pl) + 6 + J + 11 * J + Hn + 6 * Hn + 3 + J; omega⟩ rfl rfl (by decide) (by decide) (fun j n hj => by match j, hj with | 0, hj => cases hj; exact ⟨by decide, by omega⟩ | 1, hj => cases hj; exact ⟨by decide, by omega⟩ | 2, hj => cases hj; exact ⟨by decide, by omega⟩) rfl rfl (Nat.le_of_ble_eq_true rfl) dX5_init_16 (fun cs hcs => ?_)
  obtain ⟨c0, c1, f3, f4, c2, c3, q4, q3⟩ := hcs
  have c0' : cs 0 = .inr (1, [vi (pl : Int), .ref (ad 2), .ref (ad 3), .ref (ad 4)]) := by
    rw [c0, show s.heap.size + (0 + 1) = ad 2 by omega, show ad 2 + 1 = ad 3 by omega, show ad 2 + 2 = ad 4 by omega]
  refine Y.eqh (h' := kq (bm D ad pl f3 f4 [.null, .null, .null, .null, .null, vi 0, vi 0, vi 0, vi 0] none) none none none none 0 0) ?_ ?_
  · show hset (hset (hset (hset (hset (hone 0 _) 1 _) 1 (cs 0)) 2 (cs 1)) 3 (cs 2)) 4 (cs 3) = _
    rw [c0', c1, c2, c3]
    funext n
    match n with
    | 0 => rfl
    | 1 => rfl
    | 2 => rfl
    | 3 => rfl
    | 4 => rfl
    | 5 => rfl
    | 6 => rfl
    | 7 => rfl
    | 8 => rfl
    | 9 => rfl
    | n + 10 =>
      rw [hset_n (by omega), hset_n (by omega), hset_n (by omega), hset_n (by omega), hset_n (by omega)]
      unfold hone kq
      rw [if_neg (by omega), if_neg (by omega), if_neg (by omega), if_neg (by omega), if_neg (by omega), if_neg (by omega), if_neg (by omega), if_neg (by omega)]
  refine y_putF C hmi (Cn := RX5) (T := TX5) (N := 9) (ci := 5) (ty := (.object "LimbKernel$Memory")) 0 dX5_init_19 m_w_5 m_f_RX5_18 rfl (by decide) tyX5 tyX5_ok nmX5 rfl rfl (by decide +kernel) rfl rfl (Nat.le_of_ble_eq_true rfl) (by rw [kq_lo (by decide)]; rfl) ?_
  refine Y.eqh (kb_put (fs' := [.ref (ad 1), .null, .null, .null, .null, vi 0, vi 0, vi 0, vi 0])) ?_
  refine y_aload_n C dX5_init_22 rfl rfl ?_
  refine y_new C (Cn := RX4) (T := TX4) (N := 6) (ci := 4) 5 (fs := [.null, vi 0, vi 0, vi 0, vl 0, vl 0]) dX5_init_23 m_w_4 tyX4 tyX4_ok m_cl_RX5_22 m_in_RX5_22 m_n_RX4 rfl (by decide) (by show _ ≤ 9 + J + Hn; omega) (by show _ ≤ 4 + (2 ^ pl + (pl + 1) + 2 ^ pl) + 6 + J + 11 * J + Hn + 6 * Hn + 3 + J; omega) (by decide) (by omega) ?_
  refine Y.eqh kb_5 ?_
  refine y_dup C dX5_init_26 rfl ?_
  refine y_aload_n C dX5_init_27 rfl rfl ?_
  refine y_get C (Cn := RX5) (T := TX5) (N := 9) (ci := 5) 0 dX5_init_28 m_w_5 m_f_RX5_18 rfl (by decide) (by rw [kq_lo (by decide)]; rfl) rfl ?_
  refine y_get C (Cn := RX1) (T := TX1) (N := 4) (ci := 1) (n := 1) 1 dX5_init_31 m_w_1 m_f_RX5_24 rfl (by decide) (by rw [kq_lo (by decide)]; rfl) rfl ?_
  refine y_callI C (nn := 1) (k0 := 5) (ns := []) (n_rec (ad 5) _ (ad 2) (by omega)) (fun _ _ _ _ _ => trivial) (fun _ _ => trivial) g_RX5_28 rfl m_n_RX4 m_l_RX5_28 m_i_yX4_init rfl (by decide +kernel) ⟨Nat.le_of_ble_eq_true rfl, Nat.le_of_ble_eq_true rfl⟩ ⟨by show _ ≤ 9 + J + Hn; omega, by show _ ≤ 4 + (2 ^ pl + (pl + 1) + 2 ^ pl) + 6 + J + 11 * J + Hn + 6 * Hn + 3 + J; omega⟩ (by rw [kq_lo (by decide)]; rfl) rfl (by decide) (by decide) (fun j n hj => by cases hj) rfl rfl (Nat.le_of_ble_eq_true rfl) dX5_init_34 (fun cs hcs => ?_)
  refine Y.eqh (h' := kq (bm D ad pl f3 f4 [.ref (ad 1), .null, .null, .null, .null, vi 0, vi 0, vi 0, vi 0] (some (.inr (4, [.ref (ad 2), vi 0, vi 0, vi 0, vl 0, vl 0])))) none none none none 0 0) (by rw [show cs 0 = _ from hcs]; exact kb_5) ?_
  refine y_putF C hmi (Cn := RX5) (T := TX5) (N := 9) (ci := 5) (ty := (.object "LimbKernel$Reckoner")) 1 dX5_init_37 m_w_5 m_f_RX5_31 rfl (by decide) tyX5 tyX5_ok nmX5 rfl rfl (by decide +kernel) rfl rfl (Nat.le_of_ble_eq_true rfl) (by rw [kq_lo (by decide)]; rfl) ?_
  refine Y.eqh (kb_put (fs' := [.ref (ad 1), .ref (ad 5), .null, .null, .null, vi 0, vi 0, vi 0, vi 0])) ?_
  refine y_aload_n C dX5_init_40 rfl rfl ?_
  refine y_iload_n C dX5_init_41 rfl rfl ?_
  refine y_iconst C dX5_init_42 ?_
  refine y_bipush C (z := 12) dX5_init_43 (by decide) ?_
  refine y_callS C (nn := 3) (As := [vi jx, vi 1, vi 12]) (c_withinG _ jx 1 12 (by omega) (by decide) (by decide)) g_RX5_9 rfl (by decide +kernel) ⟨Nat.le_of_ble_eq_true rfl, Nat.le_of_ble_eq_true rfl⟩ ⟨by show _ ≤ 9 + J + Hn; omega, by show _ ≤ 4 + (2 ^ pl + (pl + 1) + 2 ^ pl) + 6 + J + 11 * J + Hn + 6 * Hn + 3 + J; omega⟩ rfl rfl (Nat.le_of_ble_eq_true rfl) dX5_init_45 (fun v h1 hp1 => ?_)
  obtain ⟨rfl, rfl⟩ := hp1
  dsimp only [Option.toList, List.cons_append, List.nil_append]
  rw [e2]
  refine y_newQ C 3 7 J (Cn := RX0) dX5_init_48 m_cl_RX5_35 hP.2.2.1 rfl rfl (by omega) (by show _ ≤ 9 + J + Hn; omega) (by show _ ≤ 4 + (2 ^ pl + (pl + 1) + 2 ^ pl) + 6 + J + 11 * J + Hn + 6 * Hn + 3 + J; omega) (by decide) (by omega) ?_
  refine Y.eqh (h' := kq (bm D ad pl f3 f4 [.ref (ad 1), .ref (ad 5), .null, .null, .null, vi 0, vi 0, vi 0, vi 0] (some (.inr (4, [.ref (ad 2), vi 0, vi 0, vi 0, vl 0, vl 0])))) none (some (jrr D ad J 0)) none none 0 0) (by rw [← jrr_0]; exact kb_7) ?_
  refine y_putF C hmi (Cn := RX5) (T := TX5) (N := 9) (ci := 5) (ty := (.array (.object "LimbKernel$Job"))) 3 dX5_init_51 m_w_5 m_f_RX5_37 rfl (by decide) tyX5 tyX5_ok nmX5 rfl rfl (by decide +kernel) rfl rfl (Nat.le_of_ble_eq_true rfl) (by rw [kq_lo (by decide)]; rfl) ?_
  refine Y.eqh (kb_put (fs' := [.ref (ad 1), .ref (ad 5), .null, .ref (ad 7), .null, vi 0, vi 0, vi 0, vi 0])) ?_
  refine y_iconst C dX5_init_54 ?_
  refine y_istore C (lv' := [(5, _), (0, _), (1, _), (2, _), (3, _), (4, _)]) dX5_init_55 (by decide) rfl ?_
  refine Y.cnt (cn' := 6 + 0) (sl' := (4 + (2 ^ pl + (pl + 1) + 2 ^ pl) + 6 + J) + 11 * 0) (by omega) (by omega) ?_
  refine yp_jobs C _ _ rfl rfl J hJ hP px jx hx qx0 6 (4 + (2 ^ pl + (pl + 1) + 2 ^ pl) + 6 + J) ⟨Nat.le_of_ble_eq_true rfl, Nat.le_of_ble_eq_true rfl⟩ (by show _ ≤ 9 + J + Hn; omega) (by show _ ≤ 4 + (2 ^ pl + (pl + 1) + 2 ^ pl) + 6 + J + 11 * J + Hn + 6 * Hn + 3 + J; omega) (fun i hi => by rw [hAj i hi]; omega) (fun lv l0 l3 l4 _ => ?_) (J + 1) 0 (by omega) (by omega)
  refine y_aload_n C dX5_init_87 rfl l0 ?_
  refine y_iload_n C dX5_init_88 rfl l3 ?_
  refine y_iconst C dX5_init_89 ?_
  refine y_bipush C (z := 24) dX5_init_90 (by decide) ?_
  refine y_callS C (nn := 3) (As := [vi hx, vi 1, vi 24]) (c_withinG _ hx 1 24 (by omega) (by decide) (by decide)) g_RX5_9 rfl (by decide +kernel) ⟨Nat.le_of_ble_eq_true rfl, Nat.le_of_ble_eq_true rfl⟩ ⟨by show _ ≤ 9 + J + Hn; omega, by show _ ≤ 4 + (2 ^ pl + (pl + 1) + 2 ^ pl) + 6 + J + 11 * J + Hn + 6 * Hn + 3 + J; omega⟩ rfl rfl (Nat.le_of_ble_eq_true rfl) dX5_init_92 (fun v h1 hp1 => ?_)
  obtain ⟨rfl, rfl⟩ := hp1
  dsimp only [Option.toList, List.cons_append, List.nil_append]
  rw [e3]
  refine y_newQ C 4 6 Hn (Cn := RX2) dX5_init_95 m_cl_RX5_42 hP.2.2.2 rfl rfl (by omega) (by show _ ≤ 9 + J + Hn; omega) (by show _ ≤ 4 + (2 ^ pl + (pl + 1) + 2 ^ pl) + 6 + J + 11 * J + Hn + 6 * Hn + 3 + J; omega) (by decide) (by omega) ?_
  refine Y.eqh (h' := kq (bm D ad pl f3 f4 [.ref (ad 1), .ref (ad 5), .null, .ref (ad 7), .null, vi 0, vi 0, vi 0, vi 0] (some (.inr (4, [.ref (ad 2), vi 0, vi 0, vi 0, vl 0, vl 0])))) (some (nrr D ad Hn 0)) (some (jrr D ad J J)) none none J 0) (by rw [← nrr_0]; exact kb_6) ?_
  refine y_putF C hmi (Cn := RX5) (T := TX5) (N := 9) (ci := 5) (ty := (.array (.object "LimbKernel$Numeral"))) 2 dX5_init_98 m_w_5 m_f_RX5_44 rfl (by decide) tyX5 tyX5_ok nmX5 rfl rfl (by decide +kernel) rfl rfl (Nat.le_of_ble_eq_true rfl) (by rw [kq_lo (by decide)]; rfl) ?_
  refine Y.eqh (kb_put (fs' := [.ref (ad 1), .ref (ad 5), .ref (ad 6), .ref (ad 7), .null, vi 0, vi 0, vi 0, vi 0])) ?_
  refine y_iconst C dX5_init_101 ?_
  rename_i hlv
  subst hlv
  refine y_istore C (lv' := [(5, _), (0, _), (1, _), (2, _), (3, _), (4, _)]) dX5_init_102 (by decide) rfl ?_
  refine Y.cnt (cn' := (7 + J) + 0) (sl' := (4 + (2 ^ pl + (pl + 1) + 2 ^ pl) + 6 + J + 11 * J + Hn) + 6 * 0) (by omega) (by omega) ?_
  refine yp_nums C _ _ _ _ rfl rfl Hn hH hP px jx hx qx0 (7 + J) (4 + (2 ^ pl + (pl + 1) + 2 ^ pl) + 6 + J + 11 * J + Hn) ⟨Nat.le_of_ble_eq_true rfl, Nat.le_of_ble_eq_true rfl⟩ (by show _ ≤ 9 + J + Hn; omega) (by show _ ≤ 4 + (2 ^ pl + (pl + 1) + 2 ^ pl) + 6 + J + 11 * J + Hn + 6 * Hn + 3 + J; omega) (fun i hi => by rw [hAh i hi]; omega) (fun lv l0 l3 l4 _ => ?_) (Hn + 1) 0 (by omega) (by omega)
  refine y_aload_n C dX5_init_134 rfl l0 ?_
  refine y_new C (Cn := RX3) (T := TX3) (N := 3) (ci := 3) 8 (fs := [.null, vi 0, vi 0]) dX5_init_135 m_w_3 tyX3 tyX3_ok m_cl_RX5_49 m_in_RX5_49 m_n_RX3 rfl (by decide) (by show _ ≤ 9 + J + Hn; omega) (by show _ ≤ 4 + (2 ^ pl + (pl + 1) + 2 ^ pl) + 6 + J + 11 * J + Hn + 6 * Hn + 3 + J; omega) (by decide) (by omega) ?_
  refine Y.eqh kb_8 ?_
  refine y_dup C dX5_init_138 rfl ?_
  refine y_aload_n C dX5_init_139 rfl l0 ?_
  refine y_get C (Cn := RX5) (T := TX5) (N := 9) (ci := 5) 3 dX5_init_140 m_w_5 m_f_RX5_37 rfl (by decide) (by rw [kq_lo (by decide)]; rfl) rfl ?_
  refine y_alen C 3 (N := J) dX5_init_143 (n := 7) rfl rfl ?_
  refine y_callI C (nn := 1) (k0 := 8) (ns := [9]) (n_queue (ad 8) _ J (by omega) hJ.2) (fun _ _ _ _ _ => trivial) (fun _ _ => trivial) g_RX5_51 rfl m_n_RX3 m_l_RX5_51 m_i_yX3_init rfl (by decide +kernel) ⟨Nat.le_of_ble_eq_true rfl, Nat.le_of_ble_eq_true rfl⟩ ⟨by show _ ≤ 9 + J + Hn; omega, by show _ ≤ 4 + (2 ^ pl + (pl + 1) + 2 ^ pl) + 6 + J + 11 * J + Hn + 6 * Hn + 3 + J; omega⟩ rfl rfl (by decide) (by decide) (fun j n hj => by match j, hj with | 0, hj => cases hj; exact ⟨by decide, by omega⟩) rfl rfl (Nat.le_of_ble_eq_true rfl) dX5_init_144 (fun cs hcs => ?_)
  obtain ⟨u0, u1⟩ := hcs
  refine Y.eqh (h' := kq (bm D ad pl f3 f4 [.ref (ad 1), .ref (ad 5), .ref (ad 6), .ref (ad 7), .null, vi 0, vi 0, vi 0, vi 0] (some (.inr (4, [.ref (ad 2), vi 0, vi 0, vi 0, vl 0, vl 0])))) (some (nrr D ad Hn Hn)) (some (jrr D ad J J)) (some (.inr (3, [.ref (ad 9), vi 0, vi 0]))) (some (.inl (D.1 10, J, .inl (fun _ => iI 0)))) J Hn) ?_ ?_
  · show hset (hset _ 8 (cs 0)) 9 (cs 1) = _
    have u0' : cs 0 = .inr (3, [.ref (ad 9), vi 0, vi 0]) := by
      have h9 : ad 9 = s.heap.size + (7 + J + Hn + 1) := by omega
      rw [u0, h9]
    rw [u0', u1, kb_8, kb_9]
  refine y_putF C hmi (Cn := RX5) (T := TX5) (N := 9) (ci := 5) (ty := (.object "LimbKernel$Queue")) 4 dX5_init_147 m_w_5 m_f_RX5_52 rfl (by decide) tyX5 tyX5_ok nmX5 rfl rfl (by decide +kernel) rfl rfl (Nat.le_of_ble_eq_true rfl) (by rw [kq_lo (by decide)]; rfl) ?_
  refine Y.eqh (kb_put (fs' := [.ref (ad 1), .ref (ad 5), .ref (ad 6), .ref (ad 7), .ref (ad 8), vi 0, vi 0, vi 0, vi 0])) ?_
  refine y_aload_n C dX5_init_150 rfl l0 ?_
  refine y_iload C dX5_init_151 l4 ?_
  refine y_iconst C dX5_init_153 ?_
  refine y_sipush C (z := 2000) dX5_init_154 (by decide) ?_
  refine y_callS C (nn := 3) (As := [vi qx0, vi 1, vi 2000]) (c_withinG _ qx0 1 2000 (by omega) (by decide) (by decide)) g_RX5_9 rfl (by decide +kernel) ⟨Nat.le_of_ble_eq_true rfl, Nat.le_of_ble_eq_true rfl⟩ ⟨by show _ ≤ 9 + J + Hn; omega, by show _ ≤ 4 + (2 ^ pl + (pl + 1) + 2 ^ pl) + 6 + J + 11 * J + Hn + 6 * Hn + 3 + J; omega⟩ rfl rfl (Nat.le_of_ble_eq_true rfl) dX5_init_157 (fun v h1 hp1 => ?_)
  obtain ⟨rfl, rfl⟩ := hp1
  dsimp only [Option.toList, List.cons_append, List.nil_append]
  rw [e4]
  refine y_putF C hmi (Cn := RX5) (T := TX5) (N := 9) (ci := 5) (ty := .int) 5 dX5_init_160 m_w_5 m_f_RX5_56 rfl (by decide) tyX5 tyX5_ok nmX5 rfl rfl (by decide +kernel) rfl rfl (Nat.le_of_ble_eq_true rfl) (by rw [kq_lo (by decide)]; rfl) ?_
  refine Y.eqh (kb_put (fs' := [.ref (ad 1), .ref (ad 5), .ref (ad 6), .ref (ad 7), .ref (ad 8), vi qn, vi 0, vi 0, vi 0])) ?_
  refine Y.cnt (cn' := 9 + J + Hn) (sl' := 4 + (2 ^ pl + (pl + 1) + 2 ^ pl) + 6 + J + 11 * J + Hn + 6 * Hn + 3 + J) (by omega) (by omega) ?_
  have some_of : ∀ n, n < 10 ∨ (10 ≤ n ∧ n < 10 + Hn) ∨ (40 ≤ n ∧ n < 40 + J) → ∃ x, kfin D ad pl J Hn qn f3 f4 n = some x := fun n hn => by
    rcases hn with hn | hn | hn
    · rcases (show n = 0 ∨ n = 1 ∨ n = 2 ∨ n = 3 ∨ n = 4 ∨ n = 5 ∨ n = 6 ∨ n = 7 ∨ n = 8 ∨ n = 9 by omega) with rfl | rfl | rfl | rfl | rfl | rfl | rfl | rfl | rfl | rfl <;> exact ⟨_, rfl⟩
    · refine ⟨.inr (2, [vi 0, vi 0, vi 0, vi 0, vi 0, vi 0]), ?_⟩
      unfold kfin kq
      rw [if_neg (by omega), if_neg (by omega), if_neg (by omega), if_neg (by omega), if_neg (by omega), if_pos hn]
    · refine ⟨.inr (0, [vi (-1), vi 0, vi 0, vi 0, vi 0, vi (-1), vi 0, vi 0, vi (-1), vi (-1), vl 0]), ?_⟩
      unfold kfin kq
      rw [if_neg (by omega), if_neg (by omega), if_neg (by omega), if_neg (by omega), if_neg (by omega), if_neg (by omega), if_pos hn]
  have nameOf : ∀ i, i < 9 + J + Hn → ∃ n, (∃ x, kfin D ad pl J Hn qn f3 f4 n = some x) ∧ ad n = sz + i := fun i hi => by
    rcases (show i ≤ 4 ∨ i = 5 ∨ (6 ≤ i ∧ i < 6 + J) ∨ i = 6 + J ∨ (7 + J ≤ i ∧ i < 7 + J + Hn) ∨ i = 7 + J + Hn ∨ i = 8 + J + Hn by omega) with c | c | c | c | c | c | c
    · exact ⟨i + 1, some_of _ (by omega), by rw [hA (i + 1) (by omega) (by omega)]; omega⟩
    · exact ⟨7, some_of _ (by omega), by omega⟩
    · refine ⟨40 + (i - 6), some_of _ (by omega), by rw [hAj (i - 6) (by omega)]; omega⟩
    · exact ⟨6, some_of _ (by omega), by omega⟩
    · refine ⟨10 + (i - (7 + J)), some_of _ (by omega), by rw [hAh (i - (7 + J)) (by omega)]; omega⟩
    · exact ⟨8, some_of _ (by omega), by omega⟩
    · exact ⟨9, some_of _ (by omega), by omega⟩
  obtain ⟨cs, hcs0, hcs1⟩ : ∃ cs : Nat → va_E, kfin D ad pl J Hn qn f3 f4 0 = some (cs 0) ∧ ∀ i, i < 9 + J + Hn → ∃ n, kfin D ad pl J Hn qn f3 f4 n = some (cs (i + 1)) ∧ ad n = sz + i := by
    refine ⟨fun i => match i with | 0 => (kfin D ad pl J Hn qn f3 f4 0).getD (.inr (0, [])) | i + 1 => if hi : i < 9 + J + Hn then (nameOf i hi).choose_spec.1.choose else .inr (0, []), rfl, fun i hi => ?_⟩
    refine ⟨(nameOf i hi).choose, ?_, (nameOf i hi).choose_spec.2⟩
    dsimp only
    rw [dif_pos hi]
    exact (nameOf i hi).choose_spec.1.choose_spec
  exact y_vret C hsz hk dX5_init_163 ⟨cs, ⟨f3, f4, q4, q3, hcs0, hcs1⟩, hcs0, hcs1⟩
