/-! THE CLAIM OUT OF ONE WALK OF THE LAW'S BODY. Your part is whole_start (and what it stands on); all else here is the same for every law, but numbers. -/
def R_law : String := "LimbKernelLaw"
def lw_P (b : Addr) (xs : List Int32) (args : Array Value) (s : State) : Prop := args = #[.ref b] ∧ s.IntsAt b xs ∧ xs.length ≤ 2564 ∧ (Jvm.Cond.and given_1 narrow_1).before args s = true
def lw_Q (_ : Array Value) (s : State) (o : Outcome) (t : State) : Prop := o = .returned (some (.int 1)) ∧ Framed s o t [] 600000 7302250
def lw_Z (below : List Frame) (a : Array Value) (s : State) : State → Prop := fun t => ∃ o, t.status = .running ∧ Ended t below o ∧ lw_Q a s o t
/-- the law's own end, with 1 on the stack, nothing written that was there before, its room as the claim has it -/
theorem lw_ret {p : Program} {l : Launch} {e : Env} {s : State} {m : MethodId} {below : List Frame} {meth : Method} {c : Code} {b : Nat} (hx : p.tables.exec = Jvm.exec) (hb : c.code = code) (hr : meth.sig.returnType = ret) (hlocks : meth.locks = false) {pc : Nat} {H : Heap} {ls : Array Slot} (hdg : decode code pc = .ok (.ireturn, 1)) : W p l e room_1 s m #[Value.ref b] below meth c H [] 600000 7302250 (lw_Z below #[Value.ref b] s) (F0 m pc ls [.int 1]) := by
  intro T hT X
  obtain ⟨fs, hret, hrun, hended, hW, hframe⟩ := X.leave (v := some (.int 1)) (hlocks := hlocks) (fun h => by rw [hr] at h; cases h)
  have hmeth' : T.vm.method? m = some meth := X.method'
  refine ⟨T.setFrames fs, ?_, .returned (some (.int 1)), hrun, hended, rfl, ⟨_, rfl⟩, hW, hframe⟩
  jvm_step X.here [X.here.top, hx, hb, hdg, hmeth', hr, ret, narrow_b1]
  (try refine ⟨rfl, ?_⟩); (try refine ⟨rfl, ?_⟩)
  first | (intro acts; rw [hret _ acts rfl rfl rfl]) | rw [hret _ _ rfl rfl rfl]
  exact Steps.refl _
/-- what holds at the law's entry: the machine, the code, the tables' words (any of lw_tbl by 'hts w (by decide +kernel)'), the script of L ints xs at the cell b, what the Statement gives of the start (any of its parts by flat_of_before) -/
def lw_At (p : Program) (s : State) (m : MethodId) (meth : Method) (c : Code) (b L : Nat) (xs : Nat → Int32) : Prop :=
  p.tables.exec = Jvm.exec ∧ c.code = code ∧ meth.sig.returnType = ret ∧ c.maxLocals = 4 ∧ s.vm.findClass R_law = some m.cls ∧ (∀ w ∈ lw_tbl, w.before #[Value.ref b] s = true) ∧ va_X b L xs s s.heap ∧ b < s.heap.size ∧ meth.locks = false ∧ (Jvm.Cond.and given_1 narrow_1).before #[Value.ref b] s = true
/-! THE LAW: its judgement LZ, with both worlds, and its rules -/
def kdom (g : Nat × Nat × Nat × Nat) (n : Nat) : Prop := n < 10 ∨ (10 ≤ n ∧ n < 10 + g.2.2.1) ∨ (40 ≤ n ∧ n < 40 + g.2.2.2)
def rdom (n : Nat) : Prop := n = 0 ∨ (4 ≤ n ∧ n ≤ 21) ∨ (24 ≤ n ∧ n ≤ 28)
theorem kc_dom {D : va_G} {ad : Nat → Nat} {g : Nat × Nat × Nat × Nat} {σ : St} {n : Nat} {x : va_E} (h : kc D ad g σ n = some x) : kdom g n := by
  by_cases c : n < 10
  · exact Or.inl c
  · rw [kc_hi (by omega)] at h
    by_cases d : 10 ≤ n ∧ n < 10 + g.2.2.1
    · exact Or.inr (Or.inl d)
    · rw [if_neg d] at h
      by_cases f : 40 ≤ n ∧ n < 40 + g.2.2.2
      · exact Or.inr (Or.inr f)
      · rw [if_neg f] at h; cases h
theorem rc_dom {D : va_G} {ad : Nat → Nat} {ρ : St} {n : Nat} {x : va_E} (hx : rc D ad ρ n = some x) : rdom n := by
  unfold rdom
  by_cases c : n < 29
  · rcases (show n = 1 ∨ n = 2 ∨ n = 3 ∨ n = 22 ∨ n = 23 ∨ (n = 0 ∨ (4 ≤ n ∧ n ≤ 21) ∨ (24 ≤ n ∧ n ≤ 28)) by omega) with rfl | rfl | rfl | rfl | rfl | d
    · cases hx
    · cases hx
    · cases hx
    · cases hx
    · cases hx
    · exact d
  · obtain ⟨k, rfl⟩ : ∃ k, n = k + 29 := ⟨n - 29, by omega⟩
    cases hx
/-- what stays fixed in the law -/
def LF (p : Program) (s : State) (m : MethodId) (meth : Method) (c : Code) (b L : Nat) (zs : Nat → Int) (D : va_G) (ad1 ad2 : Nat → Nat) (g : Nat × Nat × Nat × Nat) : Prop :=
  p.tables.exec = Jvm.exec ∧ c.code = code ∧ c.maxLocals = 4 ∧ s.vm.findClass RL = some m.cls ∧ (∀ w ∈ tb, w.before #[Value.ref b] s = true) ∧ meth.sig.returnType = ret ∧ meth.locks = false ∧ va_K D vwCl (tysL D) s ∧ (va_X b L (fun j => iI (zs j)) s s.heap ∧ b < s.heap.size ∧ ∀ j, -2147483648 ≤ zs j ∧ zs j < 2147483648) ∧ (inj ad1 ∧ inj ad2) ∧ ((∀ n, n < 64 → s.heap.size ≤ ad1 n) ∧ ∀ n, n < 64 → s.heap.size ≤ ad2 n) ∧ (∀ i j, kdom g i → j < 64 → ad1 i ≠ ad2 j) ∧ ∀ i j, i < 64 → rdom j → ad2 j ≠ ad1 i
def LZ (p : Program) (l : Launch) (e : Env) (s : State) (m : MethodId) (b : Nat) (below : List Frame) (meth : Method) (c : Code) (D : va_G) (ad1 ad2 : Nat → Nat) (g : Nat × Nat × Nat × Nat) (σ ρ : St) (cn sl : Nat) (pc : Nat) (lv : List (Nat × Value)) (st : List Value) : Prop :=
  ∀ (H : Heap) (locs : List Loc) (ls : Array Slot), hw D ad1 (kc D ad1 g σ) H → hw D ad2 (rc D ad2 ρ) H → va_S (fun q => s.heap.size ≤ q) s.heap H locs → lv_has ls 4 lv → W p l e room_1 s m #[Value.ref b] below meth c H locs cn sl (lw_Z below #[Value.ref b] s) (F0 m pc ls st)
section LW
variable {p : Program} {l : Launch} {e : Env} {s : State} {m : MethodId} {bb L : Nat} {zs : Nat → Int} {below : List Frame} {meth : Method} {c : Code} {D : va_G} {ad1 ad2 : Nat → Nat} {g : Nat × Nat × Nat × Nat} {σ ρ : St} {cn sl : Nat} {pc : Nat} {lv : List (Nat × Value)} {st : List Value}
theorem l_iconst (C : LF p s m meth c bb L zs D ad1 ad2 g) {n : Int} (hd : decode code pc = .ok (.iconst n, 1))  (k : LZ p l e s m bb below meth c D ad1 ad2 g σ ρ cn sl (pc + 1) lv (vi n :: st)) : LZ p l e s m bb below meth c D ad1 ad2 g σ ρ cn sl pc lv st :=
  fun H locs ls hh hr hs hl => lv_iconst C.1 C.2.1 hd rfl (k H locs ls hh hr hs hl)
theorem l_bipush (C : LF p s m meth c bb L zs D ad1 ad2 g) {n : Int} {z : Int} (hd : decode code pc = .ok (.bipush n, 2)) (hz : (Int8.ofInt n).toInt32 = iI z) (k : LZ p l e s m bb below meth c D ad1 ad2 g σ ρ cn sl (pc + 2) lv (vi z :: st)) : LZ p l e s m bb below meth c D ad1 ad2 g σ ρ cn sl pc lv st :=
  fun H locs ls hh hr hs hl => lv_bipush C.1 C.2.1 hd hz (k H locs ls hh hr hs hl)
theorem l_iload_n (C : LF p s m meth c bb L zs D ad1 ad2 g) {k0 : Fin 4} {i : Nat} {x : Int32} (hd : decode code pc = .ok (.iload_n k0, 1)) (hi : (k0 : Nat) = i) (hx : lk i lv = some (.int x)) (k : LZ p l e s m bb below meth c D ad1 ad2 g σ ρ cn sl (pc + 1) lv (.int x :: st)) : LZ p l e s m bb below meth c D ad1 ad2 g σ ρ cn sl pc lv st :=
  fun H locs ls hh hr hs hl => lv_iload_n C.1 C.2.1 hd hi (lk_at hl hx) (k H locs ls hh hr hs hl)
theorem l_istore_n (C : LF p s m meth c bb L zs D ad1 ad2 g) {k0 : Fin 4} {i : Nat} {x : Int32} {lv' : List (Nat × Value)} (hd : decode code pc = .ok (.istore_n k0, 1)) (hi : (k0 : Nat) = i) (hn : i < 4) (hx : (i, Value.int x) :: lv.filter (fun q => !(q.1 == i) && !(q.1 + 1 == i && q.2.category == 2)) = lv') (k : LZ p l e s m bb below meth c D ad1 ad2 g σ ρ cn sl (pc + 1) lv' st) : LZ p l e s m bb below meth c D ad1 ad2 g σ ρ cn sl pc lv (.int x :: st) :=
  fun H locs ls hh hr hs hl => lv_istore_n C.1 C.2.1 hd hi hl hn hx (fun ls hl => k H locs ls hh hr hs hl)
theorem l_aload_n (C : LF p s m meth c bb L zs D ad1 ad2 g) {k0 : Fin 4} {i : Nat} {x : Nat} (hd : decode code pc = .ok (.aload_n k0, 1)) (hi : (k0 : Nat) = i) (hx : lk i lv = some (.ref x)) (k : LZ p l e s m bb below meth c D ad1 ad2 g σ ρ cn sl (pc + 1) lv (.ref x :: st)) : LZ p l e s m bb below meth c D ad1 ad2 g σ ρ cn sl pc lv st :=
  fun H locs ls hh hr hs hl => lv_aload_n C.1 C.2.1 hd hi (lk_at hl hx) (k H locs ls hh hr hs hl)
theorem l_astore_n (C : LF p s m meth c bb L zs D ad1 ad2 g) {k0 : Fin 4} {i : Nat} {x : Nat} {lv' : List (Nat × Value)} (hd : decode code pc = .ok (.astore_n k0, 1)) (hi : (k0 : Nat) = i) (hn : i < 4) (hx : (i, Value.ref x) :: lv.filter (fun q => !(q.1 == i) && !(q.1 + 1 == i && q.2.category == 2)) = lv') (k : LZ p l e s m bb below meth c D ad1 ad2 g σ ρ cn sl (pc + 1) lv' st) : LZ p l e s m bb below meth c D ad1 ad2 g σ ρ cn sl pc lv (.ref x :: st) :=
  fun H locs ls hh hr hs hl => lv_astore_n C.1 C.2.1 hd hi hl hn hx (fun ls hl => k H locs ls hh hr hs hl)
theorem l_iinc (C : LF p s m meth c bb L zs D ad1 ad2 g) {i : Nat} {n z : Int} {lv' : List (Nat × Value)} (hd : decode code pc = .ok (.iinc i n, 3)) (hz : lk i lv = some (vi z)) (hn : i < 4) (hx : (i, vi (z + n)) :: lv.filter (fun q => !(q.1 == i) && !(q.1 + 1 == i && q.2.category == 2)) = lv') (k : LZ p l e s m bb below meth c D ad1 ad2 g σ ρ cn sl (pc + 3) lv' st) : LZ p l e s m bb below meth c D ad1 ad2 g σ ρ cn sl pc lv st := by
  intro H locs ls hh hr hs hl
  obtain ⟨kk, hk⟩ := lk_ix hz
  exact lv_iinc C.1 C.2.1 hd hl hk (iI_add z n) hn hx (fun ls hl => k H locs ls hh hr hs hl)
theorem l_iadd (C : LF p s m meth c bb L zs D ad1 ad2 g) {a b : Int} (hd : decode code pc = .ok (.iadd, 1)) (k : LZ p l e s m bb below meth c D ad1 ad2 g σ ρ cn sl (pc + 1) lv (vi (a + b) :: st)) : LZ p l e s m bb below meth c D ad1 ad2 g σ ρ cn sl pc lv (vi b :: vi a :: st) :=
  fun H locs ls hh hr hs hl => lv_iadd C.1 C.2.1 hd (by rw [iI_add]; exact k H locs ls hh hr hs hl)
theorem l_isub (C : LF p s m meth c bb L zs D ad1 ad2 g) {a b : Int} (hd : decode code pc = .ok (.isub, 1)) (k : LZ p l e s m bb below meth c D ad1 ad2 g σ ρ cn sl (pc + 1) lv (vi (a - b) :: st)) : LZ p l e s m bb below meth c D ad1 ad2 g σ ρ cn sl pc lv (vi b :: vi a :: st) :=
  fun H locs ls hh hr hs hl => lv_isub C.1 C.2.1 hd (by rw [iI_sub]; exact k H locs ls hh hr hs hl)
theorem l_icmp_gt (C : LF p s m meth c bb L zs D ad1 ad2 g) {a b : Int} {off : Int} {tgt : Nat} (hd : decode code pc = .ok (.if_icmp .gt off, 3)) (ht : (pc : Int) + off = (tgt : Int)) (ha : -2147483648 ≤ a ∧ a < 2147483648) (hb : -2147483648 ≤ b ∧ b < 2147483648) (k1 : b < a → LZ p l e s m bb below meth c D ad1 ad2 g σ ρ cn sl tgt lv st) (k2 : ¬ (b < a) → LZ p l e s m bb below meth c D ad1 ad2 g σ ρ cn sl (pc + 3) lv st) : LZ p l e s m bb below meth c D ad1 ad2 g σ ρ cn sl pc lv (vi b :: vi a :: st) :=
  fun H locs ls hh hr hs hl => lv_icmp_gt C.1 C.2.1 hd ht (fun q => k1 ((iI_lt hb ha).mp q) H locs ls hh hr hs hl) (fun q => k2 (fun z => q ((iI_lt hb ha).mpr z)) H locs ls hh hr hs hl)
theorem l_goto (C : LF p s m meth c bb L zs D ad1 ad2 g) {off : Int} {tgt : Nat} (hd : decode code pc = .ok (.goto off, 3)) (ht : (pc : Int) + off = (tgt : Int)) (k : LZ p l e s m bb below meth c D ad1 ad2 g σ ρ cn sl tgt lv st) : LZ p l e s m bb below meth c D ad1 ad2 g σ ρ cn sl pc lv st :=
  fun H locs ls hh hr hs hl => lv_goto C.1 C.2.1 hd ht (k H locs ls hh hr hs hl)
theorem l_tableOut (C : LF p s m meth c bb L zs D ad1 ad2 g) {dflt lo hi : Int} {offs : Array Int} {len : Nat} {a : Int} {tgt : Nat} (hd : decode code pc = .ok (.tableswitch dflt lo hi offs, len)) (ha : -2147483648 ≤ a ∧ a < 2147483648) (hq : a < lo ∨ hi < a) (ht : (pc : Int) + dflt = (tgt : Int)) (k : LZ p l e s m bb below meth c D ad1 ad2 g σ ρ cn sl tgt lv st) : LZ p l e s m bb below meth c D ad1 ad2 g σ ρ cn sl pc lv (vi a :: st) :=
  fun H locs ls hh hr hs hl => lv_tableOut C.1 C.2.1 hd (by rw [iI_t ha]; exact hq) ht (k H locs ls hh hr hs hl)
theorem l_tableIn (C : LF p s m meth c bb L zs D ad1 ad2 g) {dflt lo hi : Int} {offs : Array Int} {len : Nat} {a off : Int} {tgt : Nat} (hd : decode code pc = .ok (.tableswitch dflt lo hi offs, len)) (ha : -2147483648 ≤ a ∧ a < 2147483648) (h1 : ¬ a < lo) (h2 : ¬ hi < a) (ho : offs[(a - lo).toNat]? = some off) (ht : (pc : Int) + off = (tgt : Int)) (k : LZ p l e s m bb below meth c D ad1 ad2 g σ ρ cn sl tgt lv st) : LZ p l e s m bb below meth c D ad1 ad2 g σ ρ cn sl pc lv (vi a :: st) :=
  fun H locs ls hh hr hs hl => lv_tableIn C.1 C.2.1 hd (by rw [iI_t ha]; exact h1) (by rw [iI_t ha]; exact h2) (by rw [iI_t ha]; exact ho) ht (k H locs ls hh hr hs hl)
theorem LZ.sub {lv' : List (Nat × Value)} (is : List Nat) (he : lv_pick lv is = lv') (k : LZ p l e s m bb below meth c D ad1 ad2 g σ ρ cn sl pc lv' st) : LZ p l e s m bb below meth c D ad1 ad2 g σ ρ cn sl pc lv st := fun H locs ls hh hr hs hl => k H locs ls hh hr hs (lv_sub hl is he)
theorem l_iand (C : LF p s m meth c bb L zs D ad1 ad2 g) {x y : Int32} {z : Int} (hd : decode code pc = .ok (.iand, 1)) (hz : x &&& y = iI z) (k : LZ p l e s m bb below meth c D ad1 ad2 g σ ρ cn sl (pc + 1) lv (vi z :: st)) : LZ p l e s m bb below meth c D ad1 ad2 g σ ρ cn sl pc lv (.int y :: .int x :: st) :=
  fun H locs ls hh hr hs hl => lv_iand C.1 C.2.1 hd (by rw [hz]; exact k H locs ls hh hr hs hl)
/-- equal answers -/
theorem l_eq (C : LF p s m meth c bb L zs D ad1 ad2 g) {x y : Int} {off : Int} {tgt : Nat} (hd : decode code pc = .ok (.if_icmp .eq off, 3)) (ht : (pc : Int) + off = (tgt : Int)) (he : x = y) (k : LZ p l e s m bb below meth c D ad1 ad2 g σ ρ cn sl tgt lv st) : LZ p l e s m bb below meth c D ad1 ad2 g σ ρ cn sl pc lv (vi y :: vi x :: st) :=
  fun H locs ls hh hr hs hl => lv_icmp_eq C.1 C.2.1 hd ht (fun _ => k H locs ls hh hr hs hl) (fun q => absurd (by rw [he]) q)
theorem l_leq (C : LF p s m meth c bb L zs D ad1 ad2 g) {x y : Int} {off : Int} {tgt : Nat} (hd : decode code pc = .ok (.lcmp, 1)) (hd2 : decode code (pc + 1) = .ok (.ifCond .eq off, 3)) (ht : ((pc + 1 : Nat) : Int) + off = (tgt : Int)) (he : x = y) (k : LZ p l e s m bb below meth c D ad1 ad2 g σ ρ cn sl tgt lv st) : LZ p l e s m bb below meth c D ad1 ad2 g σ ρ cn sl pc lv (vl y :: vl x :: st) :=
  fun H locs ls hh hr hs hl => W.lcmp C.1 C.2.1 hd (by
    rw [show lg_cmp (lI x) (lI y) = 0 by rw [he]; unfold lg_cmp; simp]
    exact lv_if_eq C.1 C.2.1 hd2 ht (fun _ => k H locs ls hh hr hs hl) (fun q => absurd rfl q))
theorem l_slen (C : LF p s m meth c bb L zs D ad1 ad2 g) (hd : decode code pc = .ok (.arraylength, 1)) (k : LZ p l e s m bb below meth c D ad1 ad2 g σ ρ cn sl (pc + 1) lv (vi (L : Int) :: st)) : LZ p l e s m bb below meth c D ad1 ad2 g σ ρ cn sl pc lv (.ref bb :: st) :=
  fun H locs ls hh hr hs hl => va_slen C.1 C.2.1 C.2.2.2.2.2.2.2.2.1.1 C.2.2.2.2.2.2.2.2.1.2.1 (Nat.not_le.mpr C.2.2.2.2.2.2.2.2.1.2.1) hs hd (by rw [← Int32.ofInt_eq_ofNat]; exact k H locs ls hh hr hs hl)
theorem l_sld (C : LF p s m meth c bb L zs D ad1 ad2 g) {z : Int} (hd : decode code pc = .ok (.iaload, 1)) (hz : 0 ≤ z ∧ z < L) (hL : L ≤ 65536) (k : LZ p l e s m bb below meth c D ad1 ad2 g σ ρ cn sl (pc + 1) lv (vi (zs z.toNat) :: st)) : LZ p l e s m bb below meth c D ad1 ad2 g σ ρ cn sl pc lv (vi z :: .ref bb :: st) :=
  fun H locs ls hh hr hs hl => va_sld C.1 C.2.1 C.2.2.2.2.2.2.2.2.1.1 C.2.2.2.2.2.2.2.2.1.2.1 (Nat.not_le.mpr C.2.2.2.2.2.2.2.2.1.2.1) hs (iI_in hz (by omega)) hd (by rw [iI_cl ⟨hz.1, by omega⟩]; exact k H locs ls hh hr hs hl)
/-- a call of the class -/
theorem l_callK (C : LF p s m meth c bb L zs D ad1 ad2 g) {y : MethodName} {ws ws' : List Cond} {fr lo : Nat} {post : Option Value → St → Prop} {As st0 : List Value} {index nn : Nat} {bytes : ByteArray} {maxL : Nat} {rt : Option FieldType} (hc : Kt l D ad1 g y ws fr lo (.ref (ad1 0) :: As) σ post) (hG : GoodIn tb (wsV RL index y.cls y ws)) (hw0 : ws = Cond.code y bytes maxL rt :: ws') (hd2 : y.cls ≠ "java/lang/invoke/MethodHandle" ∧ y.cls ≠ "java/lang/invoke/VarHandle" ∧ (parseMethodDescriptor y.desc).map (fun d => d.parameters.length) = some nn) (hR : fr + 1 ≤ 9 ∧ 8 + (maxL + 11) + lo ≤ 360) (hRc : cn ≤ 600000 ∧ sl ≤ 7302250) (hr1 : RX5 = y.cls) (hn : As.length = nn) (hst : st0 = As.reverse ++ .ref (ad1 0) :: st) (hW : (st.map fun v => v.category).sum ≤ 8) (hd : decode code pc = .ok (.invokevirtual index, 3))
    (k : ∀ (v : Option Value) (σ' : St), post v σ' → LZ p l e s m bb below meth c D ad1 ad2 g σ' ρ cn sl (pc + 3) lv (v.toList ++ st)) : LZ p l e s m bb below meth c D ad1 ad2 g σ ρ cn sl pc lv st0 := by
  intro H locs ls hh hr hs hl
  subst hst
  obtain ⟨x1, x2, x3, x4, x5, -, -, hK, -, ⟨i1, i2⟩, ⟨o1, o2⟩, dj1, dj2⟩ := C
  have hrv := va_recv (D := D) (cl := vwCl) (ws := [(ad1 0, .inr (5, _))]) hK (fun j q hq => by
    have hj : j = 0 := by have := (List.getElem?_eq_some_iff.mp hq).1; simp at this; exact this
    subst hj; cases hq; exact (hh 0 _ rfl).2) (ci := 5) (q := (RX5, TX5, 9)) rfl (q0 := 0) rfl
  have hrv' : ∃ cell : Cell, H[ad1 0]? = some cell ∧ cell.vm.isStatics = false ∧ s.vm.findClass y.cls = some cell.cls := by rw [← hr1]; exact hrv
  intro T hT Xx
  obtain ⟨v, st₀, t, T', L0, h0, X', hL, e1, e2, ⟨⟨v', h1, hv, hp, hwo⟩, hz, hk⟩, stp⟩ := va_runV (As := As) (rest := st) (g := F0 m pc ls (As.reverse ++ .ref (ad1 0) :: st)) ⟨x1, x2, x3, x4, x5⟩ hc (cwV nn x5 hG hw0 rfl rfl ⟨rfl, hd2⟩ hR) ⟨WO.blind, hrv', fun U hU hWm => ⟨rfl, by rw [hU]; exact hh, va_K.moved hWm.alike hK, i1⟩⟩ rfl hn hl.1 rfl (by show 2 * 0 + _ ≤ 8; omega) hd ⟨by show cn + 0 ≤ 600000; omega, by show sl + 0 ≤ 7302250; omega⟩ T hT Xx
  cases hv
  obtain ⟨σ', rfl, hp⟩ := hp
  rw [h0] at hz hk
  have hkeep : hw D ad2 (rc D ad2 ρ) T'.heap := fun n x hx => by
    obtain ⟨q1, q2⟩ := hr n x hx
    refine ⟨q1, q2.kept ?_⟩
    rw [e1]
    exact hk _ q2.lt (fun ⟨i, hi, he⟩ => dj2 i n hi (rc_dom hx) he)
  obtain ⟨t2, a1, b1⟩ := k v σ' hp T'.heap (locs ++ L0) ls (by rw [e1]; exact hwo.1) hkeep ⟨Nat.le_trans hs.1 (by rw [e1]; exact hz), fun q g1 g2 => by rw [e1, hk q (Nat.lt_of_lt_of_le g1 hs.1) (fun ⟨i, hi, he⟩ => g2 (by show s.heap.size ≤ q; rw [he]; exact o1 i hi))]; exact hs.2.1 q g1 g2, fun q hq => by
      rcases List.mem_append.mp hq with g | g
      · exact hs.2.2 q g
      · obtain ⟨i, hi, he⟩ := hL q g
        show s.heap.size ≤ q.base
        rw [he]; exact o1 i hi⟩ hl T' rfl X'
  exact ⟨t2, stp t2 a1, b1⟩
/-- a call of the reference -/
theorem l_callR (C : LF p s m meth c bb L zs D ad1 ad2 g) {y : MethodName} {ws ws' : List Cond} {fr lo : Nat} {post : Option Value → St → Prop} {As st0 : List Value} {index nn : Nat} {bytes : ByteArray} {maxL : Nat} {rt : Option FieldType} (hc : Rt l D ad2 y ws fr lo (.ref (ad2 0) :: As) ρ post) (hG : GoodIn tb (wsV RL index y.cls y ws)) (hw0 : ws = Cond.code y bytes maxL rt :: ws') (hd2 : y.cls ≠ "java/lang/invoke/MethodHandle" ∧ y.cls ≠ "java/lang/invoke/VarHandle" ∧ (parseMethodDescriptor y.desc).map (fun d => d.parameters.length) = some nn) (hR : fr + 1 ≤ 9 ∧ 8 + (maxL + 11) + lo ≤ 360) (hRc : cn ≤ 600000 ∧ sl ≤ 7302250) (hr1 : RX6 = y.cls) (hn : As.length = nn) (hst : st0 = As.reverse ++ .ref (ad2 0) :: st) (hW : (st.map fun v => v.category).sum ≤ 8) (hd : decode code pc = .ok (.invokevirtual index, 3))
    (k : ∀ (v : Option Value) (ρ' : St), post v ρ' → LZ p l e s m bb below meth c D ad1 ad2 g σ ρ' cn sl (pc + 3) lv (v.toList ++ st)) : LZ p l e s m bb below meth c D ad1 ad2 g σ ρ cn sl pc lv st0 := by
  intro H locs ls hh hr hs hl
  subst hst
  obtain ⟨x1, x2, x3, x4, x5, -, -, hK, -, ⟨i1, i2⟩, ⟨o1, o2⟩, dj1, dj2⟩ := C
  have hrv := va_recv (D := D) (cl := vwCl) (ws := [(ad2 0, .inr (6, _))]) hK (fun j q hq => by
    have hj : j = 0 := by have := (List.getElem?_eq_some_iff.mp hq).1; simp at this; exact this
    subst hj; cases hq; exact (hr 0 _ rfl).2) (ci := 6) (q := (RX6, TX6, 33)) rfl (q0 := 0) rfl
  have hrv' : ∃ cell : Cell, H[ad2 0]? = some cell ∧ cell.vm.isStatics = false ∧ s.vm.findClass y.cls = some cell.cls := by rw [← hr1]; exact hrv
  intro T hT Xx
  obtain ⟨v, st₀, t, T', L0, h0, X', hL, e1, e2, ⟨⟨v', h1, hv, hp, hwo⟩, hz, hk⟩, stp⟩ := va_runV (As := As) (rest := st) (g := F0 m pc ls (As.reverse ++ .ref (ad2 0) :: st)) ⟨x1, x2, x3, x4, x5⟩ hc (cwV nn x5 hG hw0 rfl rfl ⟨rfl, hd2⟩ hR) ⟨WO.blind, hrv', fun U hU hWm => ⟨rfl, by rw [hU]; exact hr, va_K.moved hWm.alike hK, i2⟩⟩ rfl hn hl.1 rfl (by show 2 * 0 + _ ≤ 8; omega) hd ⟨by show cn + 0 ≤ 600000; omega, by show sl + 0 ≤ 7302250; omega⟩ T hT Xx
  cases hv
  obtain ⟨ρ', rfl, hp⟩ := hp
  rw [h0] at hz hk
  have hkeep : hw D ad1 (kc D ad1 g σ) T'.heap := fun n x hx => by
    obtain ⟨q1, q2⟩ := hh n x hx
    refine ⟨q1, q2.kept ?_⟩
    rw [e1]
    exact hk _ q2.lt (fun ⟨i, hi, he⟩ => dj1 n i (kc_dom hx) hi he)
  obtain ⟨t2, a1, b1⟩ := k v ρ' hp T'.heap (locs ++ L0) ls hkeep (by rw [e1]; exact hwo.1) ⟨Nat.le_trans hs.1 (by rw [e1]; exact hz), fun q g1 g2 => by rw [e1, hk q (Nat.lt_of_lt_of_le g1 hs.1) (fun ⟨i, hi, he⟩ => g2 (by show s.heap.size ≤ q; rw [he]; exact o2 i hi))]; exact hs.2.1 q g1 g2, fun q hq => by
      rcases List.mem_append.mp hq with g | g
      · exact hs.2.2 q g
      · obtain ⟨i, hi, he⟩ := hL q g
        show s.heap.size ≤ q.base
        rw [he]; exact o2 i hi⟩ hl T' rfl X'
  exact ⟨t2, stp t2 a1, b1⟩
/-- the law's end -/
theorem l_end (C : LF p s m meth c bb L zs D ad1 ad2 g) (hRc : cn ≤ 600000 ∧ sl ≤ 7302250) (hd : decode code pc = .ok (.ireturn, 1)) : LZ p l e s m bb below meth c D ad1 ad2 g σ ρ cn sl pc lv [vi 1] :=
  fun H locs ls hh hr hs hl => va_forget (fun q hq => hs.2.2 q hq) (W.widen hRc.1 hRc.2 (lw_ret C.1 C.2.1 C.2.2.2.2.2.1 C.2.2.2.2.2.2.1 hd))
end LW
