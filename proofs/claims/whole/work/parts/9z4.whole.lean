/-! THE LAW FROM ITS ENTRY; the claim -/
theorem adKr_lt {a sz J Hn n : Nat} {pl np : Nat} (ha : a < sz) (hJ : J ≤ 12) (hH : Hn ≤ 24) (h : kdom (pl, np, Hn, J) n) : adKr a sz J Hn n < sz + 9 + J + Hn := by
  unfold kdom at h
  dsimp only at h
  unfold adKr
  repeat' split
  all_goals omega
theorem adRr_lt {a sz n : Nat} (ha : a < sz) (h : rdom n) : adRr a sz n < sz + 23 := by
  unfold rdom at h
  unfold adRr
  repeat' split
  all_goals omega
theorem adKr_ge {a sz J Hn n : Nat} (ha : a < sz) (hn : n < 64) : a ≤ adKr a sz J Hn n ∧ (adKr a sz J Hn n < sz + 9 + J + Hn ∨ sz + 1000 ≤ adKr a sz J Hn n) := by
  unfold adKr
  repeat' split
  all_goals omega
theorem adRr_ge {a sz n : Nat} (ha : a < sz) (hn : n < 64) : a ≤ adRr a sz n := by
  unfold adRr
  repeat' split
  all_goals omega
theorem hw.stay {D : va_G} {ad : Nat → Nat} {h : HM} : stay (hw D ad h) := fun H H1 hh hq n x hx => ⟨(hh n x hx).1, (hh n x hx).2.kept (hq _ (hh n x hx).2.lt)⟩
theorem at_stay {D : va_G} {q : Nat × va_E} : stay (va_at D vwCl q) := fun H H1 hh hq => hh.kept (hq _ hh.lt)
theorem stay.and {F G : Heap → Prop} (h1 : stay F) (h2 : stay G) : stay (fun H => F H ∧ G H) := fun H H1 hh hq => ⟨h1 H H1 hh.1 hq, h2 H H1 hh.2 hq⟩
theorem PZ.mono {p : Program} {l : Launch} {e : Env} {s : State} {m : MethodId} {b : Nat} {below : List Frame} {meth : Method} {c : Code} {F F' : Heap → Prop} {cn sl pc : Nat} {lv : List (Nat × Value)} {st : List Value} (h : ∀ H, F H → F' H) (k : PZ p l e s m b below meth c F' cn sl pc lv st) : PZ p l e s m b below meth c F cn sl pc lv st := fun H locs ls hz hh hs hl => k H locs ls hz (h H hh) hs hl
theorem lw_1 {w : Cond} (i : Nat) (h : tables_1_1[i]? = some w) : w ∈ lw_tbl := List.mem_append_right _ (List.mem_append_left _ (List.mem_of_getElem? h))
set_option maxHeartbeats 4000000 in
set_option maxRecDepth 100000 in
theorem whole_start {p : Program} {e : Env} {s : State} {m : MethodId} {below : List Frame} {meth : Method} {c : Code} (l : Launch) {b L : Nat} {xs : Nat → Int32} (hL : L ≤ 2564) (C0 : lw_At p s m meth c b L xs) : W p l e room_1 s m #[Value.ref b] below meth c s.heap [] 0 0 (lw_Z below #[Value.ref b] s) (entryFrame m ([Value.ref b] : List Value).toArray 4) := by
  obtain ⟨hx, hb, hr, hml, hown, hts, hX, hbl, hlocks, -⟩ := C0
  have htb : ∀ w ∈ tb, w.before #[Value.ref b] s = true := fun w hw => hts w (tb_lw w hw)
  have hP : PKr s := ⟨va_Nw.of rfl (hts _ (lw_1 90 rfl)), va_Nw.of rfl (hts _ (lw_1 139 rfl)), va_AO.of (hts _ (lw_1 88 rfl)), va_AO.of (hts _ (lw_1 137 rfl))⟩
  obtain ⟨D, hK⟩ := known htb hP.2.2.1 hP.2.2.2
  obtain ⟨zs, hzs, hzr⟩ : ∃ zs : Nat → Int, xs = (fun j => iI (zs j)) ∧ ∀ j, -2147483648 ≤ zs j ∧ zs j < 2147483648 := by
    refine ⟨fun j => (xs j).toInt, funext fun j => (Int32.ofInt_toInt (xs j)).symm, fun j => ⟨?_, ?_⟩⟩
    · have := (xs j).le_toInt; dsimp only; omega
    · have := (xs j).toInt_lt; dsimp only; omega
  subst hzs
  have C : PF p s m meth c b L zs D := ⟨hx, hb, hml, hown, htb, hK, ⟨hX, hbl⟩, hP⟩
  obtain ⟨x0, hx0⟩ : ∃ x0 : Int, (if 0 < L then zs 0 else 0) = x0 := ⟨_, rfl⟩
  obtain ⟨x1, hx1⟩ : ∃ x0 : Int, (if 1 < L then zs 1 else 0) = x0 := ⟨_, rfl⟩
  obtain ⟨x2, hx2⟩ : ∃ x0 : Int, (if 2 < L then zs 2 else 0) = x0 := ⟨_, rfl⟩
  obtain ⟨x3, hx3⟩ : ∃ x0 : Int, (if 3 < L then zs 3 else 0) = x0 := ⟨_, rfl⟩
  have r0 : -2147483648 ≤ x0 ∧ x0 < 2147483648 := by rw [← hx0]; split <;> first | exact hzr 0 | decide
  have r1 : -2147483648 ≤ x1 ∧ x1 < 2147483648 := by rw [← hx1]; split <;> first | exact hzr 1 | decide
  have r2 : -2147483648 ≤ x2 ∧ x2 < 2147483648 := by rw [← hx2]; split <;> first | exact hzr 2 | decide
  have r3 : -2147483648 ≤ x3 ∧ x3 < 2147483648 := by rw [← hx3]; split <;> first | exact hzr 3 | decide
  obtain ⟨pl, hpl⟩ : ∃ pl : Nat, max 3 (min 11 x0) = (pl : Int) := ⟨(max 3 (min 11 x0)).toNat, by omega⟩
  obtain ⟨J, hJ⟩ : ∃ J : Nat, max 1 (min 12 x1) = (J : Int) := ⟨(max 1 (min 12 x1)).toNat, by omega⟩
  obtain ⟨Hn, hHn⟩ : ∃ Hn : Nat, max 1 (min 24 x2) = (Hn : Int) := ⟨(max 1 (min 24 x2)).toNat, by omega⟩
  obtain ⟨qn, hqn⟩ : ∃ qn : Int, max 1 (min 2000 x3) = qn := ⟨_, rfl⟩
  have bpl : 3 ≤ pl ∧ pl ≤ 11 := by omega
  have bJ : 1 ≤ J ∧ J ≤ 12 := by omega
  have bH : 1 ≤ Hn ∧ Hn ≤ 24 := by omega
  have bq : 1 ≤ qn ∧ qn ≤ 2000 := by omega
  have h2p : 2 ^ pl ≤ 2048 := Nat.pow_le_pow_right (n := 2) (by decide) bpl.2
  have h2q : 8 ≤ 2 ^ pl := Nat.pow_le_pow_right (n := 2) (i := 3) (by decide) bpl.1
  have hg : GG (pl, 2 ^ pl, Hn, J) := ⟨bpl.1, bpl.2, h2q, h2p, bH.1, bH.2, bJ.1, bJ.2⟩
  rw [lg_entry_eq]
  have hl := lv_entry [Value.ref b] (n := 4) (Nat.le_of_ble_eq_true rfl)
  generalize (lg_sl [Value.ref b] ++ List.replicate (4 - (lg_sl [Value.ref b]).length) Slot.unset).toArray = ls at hl ⊢
  have hl : lv_has ls 4 [(0, .ref b)] := hl
  suffices hgo : PZ p l e s m b below meth c (fun _ => True) 0 0 0 [(0, .ref b)] [] from hgo s.heap [] ls rfl trivial va_S.rf hl
  have st0 : stay (fun _ : Heap => True) := fun _ _ _ _ => trivial
  refine p_new C (Cn := RX5) (T := TX5) (N := 9) (ci := 5) (fs := [.null, .null, .null, .null, .null, vi 0, vi 0, vi 0, vi 0]) st0 dL_law_0 m_w_5 tyX5 tyX5_ok m_cl_RL_7 m_in_RL_7 m_n_RX5 rfl (by decide) (by omega) (by omega) ?_
  have st1 : stay (fun H : Heap => True ∧ va_at D vwCl (s.heap.size + 0, .inr (5, [.null, .null, .null, .null, .null, vi 0, vi 0, vi 0, vi 0])) H) := st0.and at_stay
  refine p_dup C dL_law_3 rfl ?_
  refine p_aload_n C dL_law_4 rfl rfl ?_
  refine p_iconst C dL_law_5 ?_
  refine p_cell C st1 (by omega) 0 (by omega) (zj := x0) hx0 ⟨by omega, by omega⟩ g_RL_9 (Nat.le_of_ble_eq_true rfl) dL_law_6 ?_
  refine p_aload_n C dL_law_9 rfl rfl ?_
  refine p_iconst C dL_law_10 ?_
  refine p_cell C st1 (by omega) 1 (by omega) (zj := x1) hx1 ⟨by omega, by omega⟩ g_RL_9 (Nat.le_of_ble_eq_true rfl) dL_law_11 ?_
  refine p_aload_n C dL_law_14 rfl rfl ?_
  refine p_iconst C dL_law_15 ?_
  refine p_cell C st1 (by omega) 2 (by omega) (zj := x2) hx2 ⟨by omega, by omega⟩ g_RL_9 (Nat.le_of_ble_eq_true rfl) dL_law_16 ?_
  refine p_aload_n C dL_law_19 rfl rfl ?_
  refine p_iconst C dL_law_20 ?_
  refine p_cell C st1 (by omega) 3 (by omega) (zj := x3) hx3 ⟨by omega, by omega⟩ g_RL_9 (Nat.le_of_ble_eq_true rfl) dL_law_21 ?_
  refine p_ctor C st1 (nn := 4) (F2 := fun _ => True) (n_ker (l := l) (D := D) (s.heap.size + 0) (s.heap.size + (0 + 1)) pl J Hn (by omega) x0 x1 x2 x3 qn r0 r1 r2 r3 hpl hJ hHn hqn) (by omega) (fun U g mk a' h => ⟨va_Nw.same rfl rfl h.1, va_Nw.same rfl rfl h.2.1, va_AO.moved (Vm.Alike.refl U.vm) h.2.2.1, va_AO.moved (Vm.Alike.refl U.vm) h.2.2.2⟩) (fun U hW => ⟨va_Nw.warmM hW hP.1, va_Nw.warmM hW hP.2.1, va_AO.moved hW.alike hP.2.2.1, va_AO.moved hW.alike hP.2.2.2⟩) g_RL_15 rfl m_n_RX5 m_l_RL_15 m_i_yX5_init rfl (by decide +kernel) ⟨Nat.le_of_ble_eq_true rfl, Nat.le_of_ble_eq_true rfl⟩ ⟨by omega, by omega⟩ rfl rfl (Nat.le_of_ble_eq_true rfl) dL_law_24 (fun _ _ _ _ => trivial) (fun cs hcs => ?_) (fun H hF => hF.2)
  obtain ⟨f3, f4, q4, q3, k0, k1⟩ := hcs
  obtain ⟨ad1, had1⟩ : ∃ ad1, ad1 = adKr (s.heap.size + 0) (s.heap.size + (0 + 1)) J Hn := ⟨_, rfl⟩
  obtain ⟨σ, hσ⟩ : ∃ σ, σ = sg0 qn f3 f4 := ⟨_, rfl⟩
  refine PZ.mono (F' := hw D ad1 (kc D ad1 (pl, 2 ^ pl, Hn, J) σ)) (fun H hF => ?_) ?_
  · rw [had1, hσ]
    exact kc_hw bJ.2 bH.2 (kfin_hw (by omega) bJ.2 bH.2 k0 k1 hF.2.1 hF.2.2)
  have a10 : s.heap.size + 0 = ad1 0 := by rw [had1]; rfl
  rw [a10]
  refine p_astore_n C (lv' := [(1, _), (0, _)]) dL_law_27 rfl (by decide) rfl ?_
  refine p_new C (Cn := RX6) (T := TX6) (N := 33) (ci := 6) (fs := [vi 0, vi 0, vi 0, vi 0, .null, .null, .null, .null, .null, .null, .null, .null, .null, .null, .null, .null, .null, .null, .null, .null, .null, .null, vi 0, vi 0, .null, .null, .null, .null, .null, vi 0, vi 0, vi 0, vi 0]) hw.stay dL_law_28 m_w_6 tyX6 tyX6_ok m_cl_RL_18 m_in_RL_18 m_n_RX6 rfl (by decide) (by omega) (by omega) ?_
  obtain ⟨a2, ha2⟩ : ∃ a2, a2 = s.heap.size + (0 + 1 + (9 + J + Hn)) := ⟨_, rfl⟩
  rw [← ha2]
  have st2 : stay (fun H : Heap => hw D ad1 (kc D ad1 (pl, 2 ^ pl, Hn, J) σ) H ∧ va_at D vwCl (a2, .inr (6, [vi 0, vi 0, vi 0, vi 0, .null, .null, .null, .null, .null, .null, .null, .null, .null, .null, .null, .null, .null, .null, .null, .null, .null, .null, vi 0, vi 0, .null, .null, .null, .null, .null, vi 0, vi 0, vi 0, vi 0])) H) := hw.stay.and at_stay
  refine p_dup C dL_law_31 rfl ?_
  refine p_aload_n C dL_law_32 rfl rfl ?_
  refine p_iconst C dL_law_33 ?_
  refine p_cell C st2 (by omega) 0 (by omega) (zj := x0) hx0 ⟨by omega, by omega⟩ g_RL_9 (Nat.le_of_ble_eq_true rfl) dL_law_34 ?_
  refine p_aload_n C dL_law_37 rfl rfl ?_
  refine p_iconst C dL_law_38 ?_
  refine p_cell C st2 (by omega) 1 (by omega) (zj := x1) hx1 ⟨by omega, by omega⟩ g_RL_9 (Nat.le_of_ble_eq_true rfl) dL_law_39 ?_
  refine p_aload_n C dL_law_42 rfl rfl ?_
  refine p_iconst C dL_law_43 ?_
  refine p_cell C st2 (by omega) 2 (by omega) (zj := x2) hx2 ⟨by omega, by omega⟩ g_RL_9 (Nat.le_of_ble_eq_true rfl) dL_law_44 ?_
  refine p_aload_n C dL_law_47 rfl rfl ?_
  refine p_iconst C dL_law_48 ?_
  refine p_cell C st2 (by omega) 3 (by omega) (zj := x3) hx3 ⟨by omega, by omega⟩ g_RL_9 (Nat.le_of_ble_eq_true rfl) dL_law_49 ?_
  refine p_ctor C st2 (nn := 4) (F2 := hw D ad1 (kc D ad1 (pl, 2 ^ pl, Hn, J) σ)) (n_ref (l := l) (D := D) a2 (s.heap.size + (0 + 1 + (9 + J + Hn) + 1)) (by omega) x0 x1 x2 x3 r0 r1 r2 r3) (by omega) (fun _ _ _ _ _ => trivial) (fun _ _ => trivial) g_RL_20 rfl m_n_RX6 m_l_RL_20 m_i_yX6_init rfl (by decide +kernel) ⟨Nat.le_of_ble_eq_true rfl, Nat.le_of_ble_eq_true rfl⟩ ⟨by omega, by omega⟩ rfl rfl (Nat.le_of_ble_eq_true rfl) dL_law_52 (fun H H1 hF hq n x hx => ?_) (fun cs2 hcs2 => ?_) (fun H hF => hF.2)
  · obtain ⟨t1, t2⟩ := hF.1 n x hx
    refine ⟨t1, t2.kept (hq _ t2.lt ?_)⟩
    have := adKr_lt (a := s.heap.size + 0) (sz := s.heap.size + (0 + 1)) (by omega) bJ.2 bH.2 (kc_dom hx)
    show ad1 n ≠ a2
    rw [had1]; omega
  obtain ⟨ρ, hB, u0, u1, u2⟩ := hcs2
  obtain ⟨ad2, had2⟩ : ∃ ad2, ad2 = adRr a2 (s.heap.size + (0 + 1 + (9 + J + Hn) + 1)) := ⟨_, rfl⟩
  have a20 : a2 = ad2 0 := by rw [had2]; rfl
  refine PZ.mono (F' := fun H => hw D ad1 (kc D ad1 (pl, 2 ^ pl, Hn, J) σ) H ∧ hw D ad2 (rc D ad2 ρ) H) (fun H hF => ⟨hF.1, ?_⟩) ?_
  · rw [had2]
    exact rc_hw (by omega) u0 u1 u2 hF.2.1 hF.2.2
  rw [a20]
  refine p_astore_n C (lv' := [(2, _), (1, _), (0, _)]) dL_law_55 rfl (by decide) rfl ?_
  refine p_iconst C dL_law_56 ?_
  refine p_istore_n C (lv' := [(3, _), (2, _), (1, _), (0, _)]) dL_law_57 rfl (by decide) rfl ?_
  have g1 := ad_ker (s.heap.size + 0) (s.heap.size + (0 + 1)) J Hn (by omega) bJ.2 bH.2
  have g2 := ad_r a2 (s.heap.size + (0 + 1 + (9 + J + Hn) + 1)) (by omega)
  have CL : LF p s m meth c b L zs D ad1 ad2 (pl, 2 ^ pl, Hn, J) := by
    refine ⟨hx, hb, hml, hown, htb, hr, hlocks, hK, ⟨hX, hbl, hzr⟩, ⟨by rw [had1]; exact g1.1.1, by rw [had2]; exact g2.1.1⟩, ⟨fun n hn => ?_, fun n hn => ?_⟩, fun i j hi hj => ?_, fun i j hi hj => ?_⟩
    · have := (adKr_ge (a := s.heap.size + 0) (sz := s.heap.size + (0 + 1)) (J := J) (Hn := Hn) (by omega) hn).1
      rw [had1]; omega
    · have := adRr_ge (a := a2) (sz := s.heap.size + (0 + 1 + (9 + J + Hn) + 1)) (by omega) hn
      rw [had2]; omega
    · have h1 := adKr_lt (a := s.heap.size + 0) (sz := s.heap.size + (0 + 1)) (by omega) bJ.2 bH.2 hi
      have h2 := adRr_ge (a := a2) (sz := s.heap.size + (0 + 1 + (9 + J + Hn) + 1)) (by omega) hj
      rw [had1, had2]; omega
    · have h1 := (adKr_ge (a := s.heap.size + 0) (sz := s.heap.size + (0 + 1)) (J := J) (Hn := Hn) (by omega) hi).2
      have h2 := adRr_lt (a := a2) (sz := s.heap.size + (0 + 1 + (9 + J + Hn) + 1)) (by omega) hj
      have h3 := adRr_ge (a := a2) (sz := s.heap.size + (0 + 1 + (9 + J + Hn) + 1)) (n := j) (by omega) (by unfold rdom at hj; omega)
      rw [had1, had2]; omega
  have hLI : LI (pl, 2 ^ pl, Hn, J) σ ρ := by
    rw [hσ]
    refine ⟨[], sg0_inv hg rfl bq q4 q3, rel_0 hg rfl q4 q3 ?_⟩
    rw [hpl, hJ, hHn, hqn] at hB
    exact hB
  exact fun H locs ls hz hh hs hl => l_loop CL hg rfl hL ⟨by omega, by omega⟩ (L + 10) 4 σ ρ hLI ⟨by omega, by omega⟩ (by omega) H locs ls hh.1 hh.2 hs hl
-- ===== YOUR PART ENDS =====
set_option maxHeartbeats 4000000 in
theorem lw_walk (l : Launch) (b : Addr) (xs : List Int32) : MetFree l x (headSpec (Jvm.Cond.code x code maxLocals ret :: tables_1) room_1) (lw_P b xs) (fun _ _ _ _ _ => True) lw_Q := by
  refine MetFree.of_bodyS (code := code) (maxLocals := maxLocals) (ret := ret) (by decide) ?_ ?_
  · intro args s m h hn
    obtain ⟨meth, c, h1, h2, h3, h4, h5, h6, -, -⟩ := Cond.code_spec hn (atoms_spec (ws := Jvm.Cond.code x code maxLocals ret :: tables_1) h _ List.mem_cons_self)
    exact ⟨meth, c, h1, h2, h3, h4, h5, h6⟩
  · intro p e s m args below meth c s₁ B hml0 hP _
    obtain ⟨rfl, hx, hbd, hgv⟩ := hP
    obtain ⟨scr, harrAt, hlist, hof, hsmall⟩ := hx
    obtain ⟨hcb, hkn, -, -⟩ := State.arrayAt?_spec harrAt
    have hown : s.vm.findClass R_law = some m.cls := findClass_of_methodNamed B.named
    have hts0 : ∀ c ∈ (Jvm.Cond.code x code maxLocals ret :: tables_1), c.before #[Value.ref b] s = true := atoms_spec (ws := Jvm.Cond.code x code maxLocals ret :: tables_1) B.pre
    have hts : ∀ w ∈ lw_tbl, w.before #[Value.ref b] s = true := k2_hts_sels lw_privs (fun w hw => hts0 w (List.mem_cons_of_mem _ hw)) lw_privs_ok
    have hml : c.maxLocals = 4 := B.maxLocals_eq (hts0 _ List.mem_cons_self)
    have X₀ : Stand p l e room_1 s m #[Value.ref b] below meth c s₁ [] 0 0 := Stand.of_body B
    have hh0 : s₁.heap = s.heap := by rw [B.state]; rfl
    have hsz : scr.slots.size = xs.length := by rw [← Array.length_toList, hlist, List.length_map]
    have hval : ∀ j : Nat, j < xs.length → scr.slots[j]? = some (.int (xs.getD j 0)) := fun j hj => by
      rw [← Array.getElem?_toList, hlist]
      simp [hj]
    have hbl : b < s.heap.size := (Array.getElem?_eq_some_iff.mp hcb).1
    have hX : va_X b xs.length (fun j => xs.getD j 0) s s.heap := ⟨scr, hcb, hof, hkn, hsz, hval⟩
    have K : W p l e room_1 s m #[Value.ref b] below meth c s₁.heap [] 0 0 (lw_Z below #[Value.ref b] s) (entryFrame m ([Value.ref b] : List Value).toArray 4) := by
      rw [hh0]
      exact whole_start l hbd ⟨B.exec, B.bytes, B.returns, hml, hown, hts, hX, hbl, B.notSynchronized, hgv⟩
    obtain ⟨t, a1, o, b1, b2, b3⟩ := K s₁ rfl X₀
    exact ⟨t, o, a1, b1, b2, b3⟩
theorem lw_pre_spec {args : Array Value} {s : State} (h : (Jvm.Cond.and given_1 narrow_1).before args s = true) (hr : rest_1_c.before args s = true) : ∃ (b : Addr) (xs : List Int32), lw_P b xs args s := by
  have hs := flat_of_before _ h
  have hq := flat_of_before _ hr
  have hc : (Cond.count 1).before args s = true := hs _ (by decide +kernel)
  have harr : (Cond.arrayOf (.arg 0) .int).before args s = true := hs _ (by decide +kernel)
  have hle : (Cond.le (.length (.arg 0)) (.int 2564)).before args s = true := hs _ (by decide +kernel)
  have hlen : (Cond.isInt (.length (.arg 0))).before args s = true := hq _ (by decide +kernel)
  have hall : (Cond.all (.arg 0) (.isInt (.elem (.arg 0) (.index 0)))).before args s = true := hq _ (by decide +kernel)
  obtain ⟨b, xs, hb, hx⟩ := State.ints_of_pre rfl harr hlen hall
  have hsm : xs.length < 2 ^ 31 := hx.choose_spec.2.2.2
  have hev : (Term.length (.arg 0)).eval args s none [] s = some (.int xs.length.toInt32) := hx.length_eval hb
  have hv := Cond.le_ints hev (show (Term.int 2564).eval args s none [] s = some (.int 2564) from rfl)
  have hd : xs.length.toInt32 ≤ 2564 := by
    simpa [Cond.before, Cond.holds, hv] using hle
  have hN : xs.length ≤ 2564 := (Int32.ofNat_le_ofNat hsm (by decide)).mp (show Int32.ofNat xs.length ≤ Int32.ofNat 2564 from hd)
  exact ⟨b, xs, Cond.one_arg hc (show args[0]? = some (.ref b) from hb), hx, hN, h⟩
theorem lw_comes (l : Launch) : Comes l x (Jvm.Cond.code x code maxLocals ret :: tables_1) room_1 (fun tb e args s => Calls_1 tb e args s ∧ rest_1 tb e args s ∧ Pre_1 tb e args s)
    (fun _ _ args s o t => lw_Q args s o t) := by
  intro p e ha hc hk s m args below hf hfit hheap happ hpre
  obtain ⟨b, xs, hP⟩ := lw_pre_spec hpre.2.2 hpre.2.1
  obtain ⟨k, o, h1, h2, h3, hQ⟩ := lw_walk l b xs p e ha hc hk s m args below hf ((Spec.applies_iff_loose hf).mp happ).1 hP trivial
  exact ⟨k, o, h1, h2, h3, hQ⟩
theorem lw_frame {s t : State} {o : Outcome} {args : Array Value} (h : Framed s o t [] 600000 7302250) :
    Framed s o t (fieldLocs frame_1_writes args s ++ arrayLocs frame_1_arrays args s ++ staticLocs frame_1_statics s) 600000 7302250 := h
theorem lw_limb (L : Cond) (hL : ∀ (args : Array Value) (s t : State), L.after args s (.returned (some (.int 1))) t = true) :
    ArmFor flags0 classFile x code maxLocals ret World_1 tables_1 room_1 Calls_1 rest_1 Pre_1
      (fun tb e a s o t => postC L tb e a s o t ∧ Framed s o t (fieldLocs frame_1_writes a s ++ arrayLocs frame_1_arrays a s ++ staticLocs frame_1_statics s) 600000 7302250) := by
  intro l _ _ _ p e ha hc hk s m args below hf hfit hheap happ hpre
  obtain ⟨k, o, h1, h2, h3, rfl, hF⟩ := lw_comes l p e ha hc hk s m args below hf hfit hheap happ hpre
  exact ⟨k, _, h1, h2, h3, hL args s _, lw_frame hF⟩
theorem i_vc : Claimed_1_1 ∧ Claimed_1_2 := ⟨lw_limb limb_1_1 (fun args s t => by simp [limb_1_1, Cond.after, Cond.holds, Cond.value]), lw_limb limb_1_2 (fun args s t => Cond.after_iff.mpr (by
  first | (rw [show limb_1_2 = Cond.eq .result (.int 1) from rfl, Cond.eq_ints (x := 1) (y := 1) rfl rfl]; simp; done) | (simp [limb_1_2, Cond.value, Term.eval]; done)))⟩

