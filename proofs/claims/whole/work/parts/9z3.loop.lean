/-! THE LAW: its loop, its beginning -/
set_option maxHeartbeats 4000000 in
set_option maxRecDepth 100000 in
theorem l_loop {p : Program} {l : Launch} {e : Env} {s : State} {m : MethodId} {bb L : Nat} {zs : Nat → Int} {below : List Frame} {meth : Method} {c : Code} {D : va_G} {ad1 ad2 : Nat → Nat} {g : Nat × Nat × Nat × Nat} {cn sl : Nat} (C : LF p s m meth c bb L zs D ad1 ad2 g) (hg : GG g) (hnp : g.2.1 = 2 ^ g.1) (hL : L ≤ 2564) (hRc : cn ≤ 600000 ∧ sl ≤ 7302250) (n : Nat) (i : Int) (σ ρ : St) (hLI : LI g σ ρ) (hi : 4 ≤ i ∧ i ≤ (L : Int) + 5) (hn : (L : Int) + 5 - i < n) : LZ p l e s m bb below meth c D ad1 ad2 g σ ρ cn sl 58 [(3, vi i), (2, .ref (ad2 0)), (1, .ref (ad1 0)), (0, .ref bb)] [] := by
  induction n generalizing i σ ρ with
  | zero => omega
  | succ n ih =>
  refine l_iload_n C dL_law_58 rfl rfl ?_
  refine l_aload_n C dL_law_59 rfl rfl ?_
  refine l_slen C dL_law_60 ?_
  refine l_iconst C dL_law_61 ?_
  refine l_isub C dL_law_62 ?_
  refine l_icmp_gt (tgt := 641) C dL_law_63 (by decide) (by omega) (by omega) (fun c1 => ?_) (fun c1 => ?_)
  · refine l_iconst C dL_law_641 ?_
    exact l_end C hRc dL_law_642
  · have K : ∀ σ' ρ' : St, LI g σ' ρ' → LZ p l e s m bb below meth c D ad1 ad2 g σ' ρ' cn sl 635 [(3, vi i), (2, .ref (ad2 0)), (1, .ref (ad1 0)), (0, .ref bb)] [] := fun σ' ρ' h => by
      refine l_iinc C (lv' := [(3, _), (2, _), (1, _), (0, _)]) dL_law_635 rfl (by decide) rfl ?_
      refine l_goto (tgt := 58) C dL_law_638 (by decide) ?_
      exact ih (i + 5) σ' ρ' h (by omega) (by omega)
    refine l_aload_n C dL_law_66 rfl rfl ?_
    refine l_iload_n C dL_law_67 rfl rfl ?_
    refine l_sld C dL_law_68 (by omega) (by omega) ?_
    refine l_bipush C (z := 31) dL_law_69 (by decide) ?_
    refine l_iand C (z := zs i.toNat % 32) dL_law_71 (iI_31 _) ?_
    have hmod : 0 ≤ zs i.toNat % 32 ∧ zs i.toNat % 32 < 32 := by omega
    generalize zs i.toNat % 32 = w at hmod
    rcases (show (w < 0 ∨ 17 < w) ∨ w = 0 ∨ w = 1 ∨ w = 2 ∨ w = 3 ∨ w = 4 ∨ w = 5 ∨ w = 6 ∨ w = 7 ∨ w = 8 ∨ w = 9 ∨ w = 10 ∨ w = 11 ∨ w = 12 ∨ w = 13 ∨ w = 14 ∨ w = 15 ∨ w = 16 ∨ w = 17 by omega) with c2 | c2 | c2 | c2 | c2 | c2 | c2 | c2 | c2 | c2 | c2 | c2 | c2 | c2 | c2 | c2 | c2 | c2 | c2
    · refine l_tableOut (tgt := 635) C dL_law_72 (by omega) c2 (by decide) ?_
      exact K σ ρ hLI
    · refine l_tableIn (off := 88) (tgt := 160) C dL_law_72 (by omega) (by omega) (by omega) (by rw [c2]; rfl) (by decide) ?_
      exact lc_0 C hg hnp hL hRc hLI i (by omega) K
    · refine l_tableIn (off := 101) (tgt := 173) C dL_law_72 (by omega) (by omega) (by omega) (by rw [c2]; rfl) (by decide) ?_
      exact lc_1 C hg hnp hL hRc hLI i (by omega) K
    · refine l_tableIn (off := 124) (tgt := 196) C dL_law_72 (by omega) (by omega) (by omega) (by rw [c2]; rfl) (by decide) ?_
      exact lc_2 C hg hnp hL hRc hLI i (by omega) K
    · refine l_tableIn (off := 167) (tgt := 239) C dL_law_72 (by omega) (by omega) (by omega) (by rw [c2]; rfl) (by decide) ?_
      exact lc_3 C hg hnp hL hRc hLI i (by omega) K
    · refine l_tableIn (off := 200) (tgt := 272) C dL_law_72 (by omega) (by omega) (by omega) (by rw [c2]; rfl) (by decide) ?_
      exact lc_4 C hg hnp hL hRc hLI i (by omega) K
    · refine l_tableIn (off := 223) (tgt := 295) C dL_law_72 (by omega) (by omega) (by omega) (by rw [c2]; rfl) (by decide) ?_
      exact lc_5 C hg hnp hL hRc hLI i (by omega) K
    · refine l_tableIn (off := 246) (tgt := 318) C dL_law_72 (by omega) (by omega) (by omega) (by rw [c2]; rfl) (by decide) ?_
      exact lc_6 C hg hnp hL hRc hLI i (by omega) K
    · refine l_tableIn (off := 299) (tgt := 371) C dL_law_72 (by omega) (by omega) (by omega) (by rw [c2]; rfl) (by decide) ?_
      exact lc_7 C hg hnp hL hRc hLI i (by omega) K
    · refine l_tableIn (off := 312) (tgt := 384) C dL_law_72 (by omega) (by omega) (by omega) (by rw [c2]; rfl) (by decide) ?_
      exact lc_8 C hg hnp hL hRc hLI i (by omega) K
    · refine l_tableIn (off := 335) (tgt := 407) C dL_law_72 (by omega) (by omega) (by omega) (by rw [c2]; rfl) (by decide) ?_
      exact lc_9 C hg hnp hL hRc hLI i (by omega) K
    · refine l_tableIn (off := 358) (tgt := 430) C dL_law_72 (by omega) (by omega) (by omega) (by rw [c2]; rfl) (by decide) ?_
      exact lc_10 C hg hnp hL hRc hLI i (by omega) K
    · refine l_tableIn (off := 381) (tgt := 453) C dL_law_72 (by omega) (by omega) (by omega) (by rw [c2]; rfl) (by decide) ?_
      exact lc_11 C hg hnp hL hRc hLI i (by omega) K
    · refine l_tableIn (off := 405) (tgt := 477) C dL_law_72 (by omega) (by omega) (by omega) (by rw [c2]; rfl) (by decide) ?_
      exact lc_12 C hg hnp hL hRc hLI i (by omega) K
    · refine l_tableIn (off := 428) (tgt := 500) C dL_law_72 (by omega) (by omega) (by omega) (by rw [c2]; rfl) (by decide) ?_
      exact lc_13 C hg hnp hL hRc hLI i (by omega) K
    · refine l_tableIn (off := 451) (tgt := 523) C dL_law_72 (by omega) (by omega) (by omega) (by rw [c2]; rfl) (by decide) ?_
      exact lc_14 C hg hnp hL hRc hLI i (by omega) K
    · refine l_tableIn (off := 464) (tgt := 536) C dL_law_72 (by omega) (by omega) (by omega) (by rw [c2]; rfl) (by decide) ?_
      exact lc_15 C hg hnp hL hRc hLI i (by omega) K
    · refine l_tableIn (off := 497) (tgt := 569) C dL_law_72 (by omega) (by omega) (by omega) (by rw [c2]; rfl) (by decide) ?_
      exact lc_16 C hg hnp hL hRc hLI i (by omega) K
    · refine l_tableIn (off := 530) (tgt := 602) C dL_law_72 (by omega) (by omega) (by omega) (by rw [c2]; rfl) (by decide) ?_
      exact lc_17 C hg hnp hL hRc hLI i (by omega) K
set_option maxHeartbeats 4000000 in
set_option maxRecDepth 100000 in
theorem c_cell {l : Launch} (b L : Nat) (zs : Nat → Int) (hL : L ≤ 65536) (k : Nat) (hk : k < 65536) : Met l yL_cell (Cond.code yL_cell cL_cell 2 (some .int) :: tb) { frames := 0, cells := 0, slots := 0, locals := 0 } (va_Pc [.ref b, vi (k : Int)] (fun U => va_X b L (fun j => iI (zs j)) U U.heap ∧ b < U.heap.size)) (fun _ st oc t => oc = .returned (some (vi (if k < L then zs k else 0))) ∧ va_F (fun _ => False) st t) 0 0 (fun _ => False) := by
  refine Met.ofW (cc := cL_cell) (maxL := 2) (ret := some .int) (by decide) rfl ?_
  intro p e s m args below meth c s₁ B hml hv
  obtain ⟨rfl, hX, hb⟩ := hv
  have hl := lv_entry [Value.ref b, vi (k : Int)] (n := 2) (Nat.le_of_ble_eq_true rfl)
  rw [lg_entry_eq]
  generalize (lg_sl [Value.ref b, vi (k : Int)] ++ List.replicate (2 - (lg_sl [Value.ref b, vi (k : Int)]).length) Slot.unset).toArray = ls at hl ⊢
  have hl : lv_has ls 2 [(0, .ref b), (1, vi (k : Int))] := hl
  have hs : va_S (fun _ => False) s.heap s.heap [] := va_S.rf
  refine lv_iload_n B.exec B.bytes dL_cell_0 rfl (lk_at (i := 1) hl rfl) ?_
  refine lv_aload_n B.exec B.bytes dL_cell_1 rfl (lk_at (i := 0) hl rfl) ?_
  refine va_slen B.exec B.bytes hX hb (fun h => h) hs dL_cell_2 ?_
  rw [← Int32.ofInt_eq_ofNat]
  refine lv_icmp_ge B.exec B.bytes dL_cell_3 (show ((3 : Nat) : Int) + 9 = ((12 : Nat) : Int) by decide) (fun q => ?_) (fun q => ?_)
  · have hlt : ¬ k < L := fun h => by have := (iI_le (a := (L : Int)) (b := (k : Int)) (by omega) (by omega)).mp q; omega
    refine lv_iconst B.exec B.bytes dL_cell_12 rfl ?_
    exact W.iret B.exec B.bytes B.returns (fun t ht hW => ⟨by rw [if_neg hlt]; rfl, hs.F ht⟩) (fun q hq => by cases hq) dL_cell_13
  · have hlt : k < L := Nat.lt_of_not_le fun h => q ((iI_le (a := (L : Int)) (b := (k : Int)) (by omega) (by omega)).mpr (by omega))
    refine lv_aload_n B.exec B.bytes dL_cell_6 rfl (lk_at (i := 0) hl rfl) ?_
    refine lv_iload_n B.exec B.bytes dL_cell_7 rfl (lk_at (i := 1) hl rfl) ?_
    refine va_sld B.exec B.bytes hX hb (fun h => h) hs (iI_in ⟨by omega, by omega⟩ (by omega)) dL_cell_8 ?_
    rw [iI_cl ⟨by omega, by omega⟩, Int.toNat_natCast]
    refine lv_goto B.exec B.bytes dL_cell_9 (show ((9 : Nat) : Int) + 4 = ((13 : Nat) : Int) by decide) ?_
    exact W.iret B.exec B.bytes B.returns (fun t ht hW => ⟨by rw [if_pos hlt], hs.F ht⟩) (fun q hq => by cases hq) dL_cell_13
set_option maxHeartbeats 4000000 in
set_option maxRecDepth 100000 in
theorem known {s : State} {a : Array Value} (hts : ∀ w ∈ tb, w.before a s = true) (hJ : va_AO RX0 s) (hN : va_AO RX2 s) : ∃ D : va_G, va_K D vwCl (tysL D) s := by
  obtain ⟨c0, i0, k0⟩ := u_known hts m_w_0 (hts _ m_in_RX5_35)
  obtain ⟨c1, i1, k1⟩ := u_known hts m_w_1 (hts _ m_in_RX5_7)
  obtain ⟨c2, i2, k2⟩ := u_known hts m_w_2 (hts _ m_in_RX5_42)
  obtain ⟨c3, i3, k3⟩ := u_known hts m_w_3 (hts _ m_in_RX5_49)
  obtain ⟨c4, i4, k4⟩ := u_known hts m_w_4 (hts _ m_in_RX5_22)
  obtain ⟨c5, i5, k5⟩ := u_known hts m_w_5 (hts _ m_in_RL_7)
  obtain ⟨c6, i6, k6⟩ := u_known hts m_w_6 (hts _ m_in_RL_18)
  obtain ⟨cI, kI, pI, hI1, hI2, hI3⟩ := Cond.arrayClass_spec (hts _ m_aI)
  obtain ⟨cL, kL, pL, hL1, hL2, hL3⟩ := Cond.arrayClass_spec (hts _ m_aL)
  obtain ⟨cZ, kZ, pZ, hZ1, hZ2, hZ3⟩ := Cond.arrayClass_spec (hts _ m_aZ)
  obtain ⟨pJ, cJ, kJ, hJ1, -, hJ2, hJ3, hJ4⟩ := Cond.arrayOver_spec hJ
  obtain ⟨pN, cN, kN, hN1, -, hN2, hN3, hN4⟩ := Cond.arrayOver_spec hN
  refine ⟨(fun n => match n with | 0 => c0 | 1 => c1 | 2 => c2 | 3 => c3 | 4 => c4 | 5 => c5 | 6 => c6 | 10 => cI | 11 => cL | 12 => cZ | 13 => cJ | _ => cN, fun n => match n with | 0 => i0 | 1 => i1 | 2 => i2 | 3 => i3 | 4 => i4 | 5 => i5 | _ => i6), fun k q hq => ?_, fun k q hq => ?_⟩
  · match k, hq with
    | 0, hq => cases hq; exact k0
    | 1, hq => cases hq; exact k1
    | 2, hq => cases hq; exact k2
    | 3, hq => cases hq; exact k3
    | 4, hq => cases hq; exact k4
    | 5, hq => cases hq; exact k5
    | 6, hq => cases hq; exact k6
  · match k, hq with
    | 0, hq => cases hq; exact ⟨fun n z => ⟨fun k h => (by cases h), kI, hI2, pI, hI3⟩, hI1⟩
    | 1, hq => cases hq; exact ⟨fun n z => ⟨fun k h => (by cases h), kL, hL2, pL, hL3⟩, hL1⟩
    | 2, hq => cases hq; exact ⟨fun n z => ⟨fun k h => (by cases h), kZ, hZ2, pZ, hZ3⟩, hZ1⟩
    | 3, hq => cases hq; exact ⟨fun n z => ⟨fun k h => (by cases h), kJ, hJ2, pJ, hJ3⟩, kJ, pJ, hJ2, hJ3, hJ1, hJ4⟩
    | 4, hq => cases hq; exact ⟨fun n z => ⟨fun k h => (by cases h), kN, hN2, pN, hN3⟩, kN, pN, hN2, hN3, hN1, hN4⟩
/-- what the heap keeps when cells come and nothing old changes -/
def stay (F : Heap → Prop) : Prop := ∀ H H1 : Heap, F H → (∀ q : Nat, q < H.size → H1[q]? = H[q]?) → F H1
def PZ (p : Program) (l : Launch) (e : Env) (s : State) (m : MethodId) (b : Nat) (below : List Frame) (meth : Method) (c : Code) (F : Heap → Prop) (cn sl : Nat) (pc : Nat) (lv : List (Nat × Value)) (st : List Value) : Prop :=
  ∀ (H : Heap) (locs : List Loc) (ls : Array Slot), H.size = s.heap.size + cn → F H → va_S (fun q => s.heap.size ≤ q) s.heap H locs → lv_has ls 4 lv → W p l e room_1 s m #[Value.ref b] below meth c H locs cn sl (lw_Z below #[Value.ref b] s) (F0 m pc ls st)
def PF (p : Program) (s : State) (m : MethodId) (meth : Method) (c : Code) (b L : Nat) (zs : Nat → Int) (D : va_G) : Prop :=
  p.tables.exec = Jvm.exec ∧ c.code = code ∧ c.maxLocals = 4 ∧ s.vm.findClass RL = some m.cls ∧ (∀ w ∈ tb, w.before #[Value.ref b] s = true) ∧ va_K D vwCl (tysL D) s ∧ (va_X b L (fun j => iI (zs j)) s s.heap ∧ b < s.heap.size) ∧ PKr s
section PZs
variable {p : Program} {l : Launch} {e : Env} {s : State} {m : MethodId} {bb L : Nat} {zs : Nat → Int} {below : List Frame} {meth : Method} {c : Code} {D : va_G} {F : Heap → Prop} {cn sl : Nat} {pc : Nat} {lv : List (Nat × Value)} {st : List Value}
theorem p_aload_n (C : PF p s m meth c bb L zs D) {k0 : Fin 4} {i : Nat} {x : Nat} (hd : decode code pc = .ok (.aload_n k0, 1)) (hi : (k0 : Nat) = i) (hx : lk i lv = some (.ref x)) (k : PZ p l e s m bb below meth c F cn sl (pc + 1) lv (.ref x :: st)) : PZ p l e s m bb below meth c F cn sl pc lv st :=
  fun H locs ls hz hh hs hl => lv_aload_n C.1 C.2.1 hd hi (lk_at hl hx) (k H locs ls hz hh hs hl)
theorem p_iconst (C : PF p s m meth c bb L zs D) {n : Int} (hd : decode code pc = .ok (.iconst n, 1)) (k : PZ p l e s m bb below meth c F cn sl (pc + 1) lv (vi n :: st)) : PZ p l e s m bb below meth c F cn sl pc lv st :=
  fun H locs ls hz hh hs hl => lv_iconst C.1 C.2.1 hd rfl (k H locs ls hz hh hs hl)
theorem p_dup (C : PF p s m meth c bb L zs D) {va : Value} (hd : decode code pc = .ok (.dup, 1)) (hv : va.category = 1) (k : PZ p l e s m bb below meth c F cn sl (pc + 1) lv (va :: va :: st)) : PZ p l e s m bb below meth c F cn sl pc lv (va :: st) :=
  fun H locs ls hz hh hs hl => lv_dup C.1 C.2.1 hd hv (k H locs ls hz hh hs hl)
theorem p_astore_n (C : PF p s m meth c bb L zs D) {k0 : Fin 4} {i : Nat} {x : Nat} {lv' : List (Nat × Value)} (hd : decode code pc = .ok (.astore_n k0, 1)) (hi : (k0 : Nat) = i) (hn : i < 4) (hx : (i, Value.ref x) :: lv.filter (fun q => !(q.1 == i) && !(q.1 + 1 == i && q.2.category == 2)) = lv') (k : PZ p l e s m bb below meth c F cn sl (pc + 1) lv' st) : PZ p l e s m bb below meth c F cn sl pc lv (.ref x :: st) :=
  fun H locs ls hz hh hs hl => lv_astore_n C.1 C.2.1 hd hi hl hn hx (fun ls hl => k H locs ls hz hh hs hl)
theorem p_istore_n (C : PF p s m meth c bb L zs D) {k0 : Fin 4} {i : Nat} {x : Int32} {lv' : List (Nat × Value)} (hd : decode code pc = .ok (.istore_n k0, 1)) (hi : (k0 : Nat) = i) (hn : i < 4) (hx : (i, Value.int x) :: lv.filter (fun q => !(q.1 == i) && !(q.1 + 1 == i && q.2.category == 2)) = lv') (k : PZ p l e s m bb below meth c F cn sl (pc + 1) lv' st) : PZ p l e s m bb below meth c F cn sl pc lv (.int x :: st) :=
  fun H locs ls hz hh hs hl => lv_istore_n C.1 C.2.1 hd hi hl hn hx (fun ls hl => k H locs ls hz hh hs hl)
theorem p_new (C : PF p s m meth c bb L zs D) {Cn : String} {T : u_T} {N ci index : Nat} {fs : List Value} (hF : stay F) (hd : decode code pc = .ok (.new index, 3)) (hin : ∀ w ∈ u_ws Cn T N, w ∈ tb) (ty : Nat → FieldType) (hty : ∀ k, k < N → parseFieldDescriptor (T k).2.2.1 = some (ty k)) (hcl : Cond.classLink RL index Cn ∈ tb) (hinst : Cond.instantiable Cn N ∈ tb) (hini : Cond.initialized Cn ∈ tb) (hc : vwCl[ci]? = some (Cn, T, N)) (hfs : ∀ j, j < N → defaultValue (ty j) = vp_V fs j) (hcells : cn + 1 ≤ 600000) (hslots : sl + N ≤ 7302250) (k : PZ p l e s m bb below meth c (fun H => F H ∧ va_at D vwCl (s.heap.size + cn, .inr (ci, fs)) H) (cn + 1) (sl + N) (pc + 3) lv (.ref (s.heap.size + cn) :: st)) : PZ p l e s m bb below meth c F cn sl pc lv st := by
  intro H locs ls hz0 hh hs hl
  have hKn := C.2.2.2.2.2.1.1 ci _ hc
  refine W.newcK C.1 C.2.1 C.2.2.2.1 (C.2.2.2.2.1 _ hcl) (C.2.2.2.2.1 _ hinst) (C.2.2.2.2.1 _ hini) rfl hd hcells hslots hKn.2.1 hz0 fun H1 kC hkC e1 z1 o1 => ?_
  have o1' : ∀ q : Nat, q < H.size → H1[q]? = H[q]? := fun q hq => o1 q (by rw [← hz0]; exact hq)
  exact k H1 locs ls (by omega) ⟨hF H H1 hh o1', ⟨_, hc, (u_born ty C.2.2.2.2.1 hin hKn hkC e1 hty).to hfs⟩⟩ (hs.more (by omega) o1') hl
theorem p_cell (C : PF p s m meth c bb L zs D) (hF : stay F) (hL : L ≤ 65536) (j : Nat) (hj : j < 65536) {zj : Int} (hzj : (if j < L then zs j else 0) = zj) (hRc : cn ≤ 600000 ∧ sl ≤ 7302250) {index : Nat} (hG : GoodIn tb (va_wsS RL index yL_cell (Cond.code yL_cell cL_cell 2 (some .int) :: tb))) (hW : (st.map fun v => v.category).sum ≤ 8) (hd : decode code pc = .ok (.invokestatic index, 3)) (k : PZ p l e s m bb below meth c F cn sl (pc + 3) lv (vi zj :: st)) : PZ p l e s m bb below meth c F cn sl pc lv (vi (j : Int) :: .ref bb :: st) := by
  intro H locs ls hz0 hh hs hl T hT Xx
  obtain ⟨x1, x2, x3, x4, x5, hK, ⟨hX, hb⟩, -⟩ := C
  have hbq : H[bb]? = s.heap[bb]? := hs.2.1 bb hb (Nat.not_le.mpr hb)
  obtain ⟨v, st₀, t, T', L0, h0, X', hL0, e1, e2, ⟨hv, hz, hk⟩, stp⟩ := va_runS (As := [.ref bb, vi (j : Int)]) (rest := st) (g := F0 m pc ls (vi (j : Int) :: .ref bb :: st)) (n := 2) ⟨x1, x2, x3, x4, x5⟩ (c_cell (l := l) bb L zs hL j hj) (va_cwS 2 x5 hG rfl rfl rfl (by decide +kernel) ⟨Nat.le_of_ble_eq_true rfl, Nat.le_of_ble_eq_true rfl⟩) ⟨fun a' U g mk q => ⟨q.1, va_X.moved (u := U) (U := U.calling g mk a') (Vm.Alike.refl U.vm) q.2.1, q.2.2⟩, fun U hU hWm => ⟨rfl, by rw [hU]; exact (hX.moved hWm.alike).kept hbq, by rw [hU]; exact Nat.lt_of_lt_of_le hb hs.1⟩⟩ rfl rfl hl.1 rfl (by show 2 * 0 + _ ≤ 8; omega) hd ⟨by show cn + 0 ≤ 600000; omega, by show sl + 0 ≤ 7302250; omega⟩ T hT Xx
  cases hv
  rw [h0] at hz hk
  rw [hzj] at stp
  have hsz : T'.heap.size = s.heap.size + cn := by
    have := X'.heapSize
    rw [e1] at this ⊢
    omega
  have hsame : ∀ q : Nat, q < H.size → T'.heap[q]? = H[q]? := fun q hq => by rw [e1]; exact hk q hq (fun h => h)
  obtain ⟨t2, a1, b1⟩ := k T'.heap (locs ++ L0) ls hsz (hF H _ hh hsame) ⟨by have := hs.1; omega, fun q g1 g2 => by rw [hsame q (Nat.lt_of_lt_of_le g1 hs.1)]; exact hs.2.1 q g1 g2, fun q hq => by
      rcases List.mem_append.mp hq with g | g
      · exact hs.2.2 q g
      · exact absurd (hL0 q g) (fun h => h)⟩ hl T' rfl X'
  exact ⟨t2, stp t2 a1, b1⟩
theorem p_ctor (C : PF p s m meth c bb L zs D) (hF : stay F) {y : MethodName} {ws ws' : List Cond} {fr lo mc ms a : Nat} {x0 : va_E} {P : State → Prop} {post : (Nat → va_E) → Prop} {As st0 : List Value} {index nn : Nat} {bytes : ByteArray} {maxL : Nat} (hc : Cn l y ws fr lo mc ms D (.ref a :: As) a (s.heap.size + cn) x0 P post) (ha : s.heap.size ≤ a) (hPb : ∀ (U : State) (g : JFrame) (mk : MethodId) (a' : Array Value), P U → P (U.calling g mk a')) (hPs : ∀ U : State, s.WarmedH U.vm → P U) (hG : GoodIn tb ws) (hw0 : ws = Cond.code y bytes maxL none :: ws') (hini : Cond.initialized y.cls ∈ tb) (hlk : Cond.methodLink RL index y ∈ tb) (hins : Cond.instanceMethod y ∈ tb) (hyi : y.name = "<init>") (hd2 : y.cls ≠ "java/lang/invoke/MethodHandle" ∧ y.cls ≠ "java/lang/invoke/VarHandle" ∧ (parseMethodDescriptor y.desc).map (fun d => d.parameters.length) = some nn) (hR : fr + 1 ≤ 9 ∧ 8 + (maxL + 11) + lo ≤ 360) (hRc : cn + mc ≤ 600000 ∧ sl + ms ≤ 7302250) (hn : As.length = nn) (hst : st0 = As.reverse ++ .ref a :: st) (hW : (st.map fun v => v.category).sum ≤ 8) (hd : decode code pc = .ok (.invokespecial index, 3)) {F2 : Heap → Prop}
    (hkeep : ∀ H H1 : Heap, F H → (∀ q : Nat, q < H.size → q ≠ a → H1[q]? = H[q]?) → F2 H1)
    (k : ∀ cs : Nat → va_E, post cs → PZ p l e s m bb below meth c (fun H => F2 H ∧ va_at D vwCl (a, cs 0) H ∧ ∀ i, i < mc → va_at D vwCl (s.heap.size + cn + i, cs (i + 1)) H) (cn + mc) (sl + ms) (pc + 3) lv st) (hx0 : ∀ H, F H → va_at D vwCl (a, x0) H) : PZ p l e s m bb below meth c F cn sl pc lv st0 := by
  intro H locs ls hz0 hh hs hl T hT Xx
  subst hst
  obtain ⟨x1, x2, x3, x4, x5, hK, -, -⟩ := C
  obtain ⟨v, st₀, t, T', L0, h0, X', hL0, e1, e2, ⟨⟨ho, hsz, hK1, cs, hp, hc0, hcn⟩, hz, hk⟩, stp⟩ := va_runI (As := As) (rest := st) (g := F0 m pc ls (As.reverse ++ .ref a :: st)) ⟨x1, x2, x3, x4, x5⟩ hc (cwI nn x5 hG hw0 rfl rfl (x5 _ hini) (x5 _ hlk) (x5 _ hins) hyi hd2 hR) ⟨Cn.blind hPb, fun U hU hWm => ⟨rfl, by rw [hU]; exact hz0, by rw [hU]; exact hx0 H hh, va_K.moved hWm.alike hK, hPs U hWm⟩⟩ rfl hn hl.1 rfl (by show 2 * 0 + _ ≤ 8; omega) hd hRc T hT Xx
  cases ho
  rw [h0] at hz hk
  have hsame : ∀ q : Nat, q < H.size → q ≠ a → T'.heap[q]? = H[q]? := fun q hq hne => by
    rw [e1]
    refine hk q hq (fun h => ?_)
    rcases h with h | h
    · exact hne h
    · have h' : s.heap.size + cn ≤ q := h
      omega
  obtain ⟨t2, a1, b1⟩ := k cs hp T'.heap (locs ++ L0) ls (by rw [e1, hsz]; omega) ⟨hkeep H _ hh hsame, by rw [e1]; exact hc0, fun i hi => by rw [e1]; exact hcn i hi⟩ ⟨by rw [e1]; exact Nat.le_trans hs.1 hz, fun q g1 g2 => by rw [hsame q (Nat.lt_of_lt_of_le g1 hs.1) (fun e => by omega)]; exact hs.2.1 q g1 g2, fun q hq => by
      rcases List.mem_append.mp hq with g | g
      · exact hs.2.2 q g
      · show s.heap.size ≤ q.base
        rcases hL0 q g with h | h
        · rw [h]; exact ha
        · have h' : s.heap.size + cn ≤ q.base := h
          omega⟩ hl T' rfl X'
  exact ⟨t2, stp t2 a1, b1⟩
end PZs
