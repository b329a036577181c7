/-! THE WALK. A world is a map from logical names to cells (HM); ad gives each name its address. X: W over every heap that holds the map. -/
abbrev HM : Type := Nat → Option va_E
abbrev vi (z : Int) : Value := .int (iI z)
abbrev vl (z : Int) : Value := .long (lI z)
def hset (h : HM) (n : Nat) (x : va_E) : HM := fun q => if q = n then some x else h q
theorem hset_s (h : HM) (n : Nat) (x : va_E) : hset h n x n = some x := by simp [hset]
theorem hset_n {h : HM} {n q : Nat} {x : va_E} (hq : q ≠ n) : hset h n x q = h q := by simp [hset, hq]
def hw (D : va_G) (ad : Nat → Nat) (h : HM) (H : Heap) : Prop := ∀ (n : Nat) (x : va_E), h n = some x → n < 64 ∧ va_at D vwCl (ad n, x) H
def inj (ad : Nat → Nat) : Prop := ∀ i j : Nat, i < 64 → j < 64 → ad i = ad j → i = j
def aA (ad : Nat → Nat) : Nat → Prop := fun q => ∃ n, n < 64 ∧ q = ad n
theorem hw.set {D : va_G} {ad : Nat → Nat} {h : HM} {H H1 : Heap} {n : Nat} {x0 x : va_E} (hi : inj ad) (hh : hw D ad h H) (hn : h n = some x0) (hx : va_at D vwCl (ad n, x) H1) (oq : ∀ q : Nat, q ≠ ad n → H1[q]? = H[q]?) : hw D ad (hset h n x) H1 := by
  intro k y hk
  have hn' := (hh n x0 hn).1
  by_cases hkn : k = n
  · subst hkn
    rw [hset_s] at hk
    cases hk
    exact ⟨hn', hx⟩
  · rw [hset_n hkn] at hk
    obtain ⟨h1, h2⟩ := hh k y hk
    exact ⟨h1, h2.kept (oq _ (fun e => hkn (hi k n h1 hn' e)))⟩
/-- the classes of arrays stand in D too: 10 int, 11 long, 12 boolean, 13 Job, 14 Numeral -/
abbrev tysL (D : va_G) : List (ClassId × FieldType) := [(D.1 10, .int), (D.1 11, .long), (D.1 12, .boolean), (D.1 13, .object "LimbKernel$Job"), (D.1 14, .object "LimbKernel$Numeral")]
def lk (i : Nat) : List (Nat × Value) → Option Value
  | [] => none
  | q :: r => bif Nat.beq q.1 i then some q.2 else lk i r
theorem lk_at {ls : Array Slot} {nL : Nat} : ∀ {lv : List (Nat × Value)} {i : Nat} {v : Value}, lv_has ls nL lv → lk i lv = some v → ls[i]? = some (.val v)
  | [], _, _, _, h => by cases h
  | q :: r, i, v, hl, h => by
    unfold lk at h
    cases hb : Nat.beq q.1 i with
    | true =>
      rw [hb] at h
      have e1 := Nat.eq_of_beq_eq_true hb
      have e2 : q.2 = v := Option.some.inj h
      have := hl.2.2 q List.mem_cons_self
      rw [e1, e2] at this
      exact this
    | false =>
      rw [hb] at h
      exact lk_at ⟨hl.1, hl.2.1, fun z hz => hl.2.2 z (List.mem_cons_of_mem _ hz)⟩ h
/-- what stays fixed in a walk -/
def Fx (p : Program) (s : State) (m : MethodId) (args : Array Value) (meth : Method) (c : Code) (D : va_G) (ad : Nat → Nat) (cc : ByteArray) (nL : Nat) (ret : Option FieldType) (own : String) (Ts : List Cond) : Prop :=
  p.tables.exec = Jvm.exec ∧ c.code = cc ∧ c.maxLocals = nL ∧ s.vm.findClass own = some m.cls ∧ (∀ w ∈ Ts, w.before args s = true) ∧ meth.sig.returnType = ret ∧ meth.locks = false ∧ va_K D vwCl (tysL D) s ∧ inj ad
def X (p : Program) (l : Launch) (e : Env) (R : Room) (s : State) (m : MethodId) (args : Array Value) (below : List Frame) (meth : Method) (c : Code) (D : va_G) (ad : Nat → Nat) (nL : Nat) (Q : State → Prop) (h : HM) (pc : Nat) (lv : List (Nat × Value)) (st : List Value) : Prop :=
  ∀ (H : Heap) (locs : List Loc) (ls : Array Slot), hw D ad h H → va_S (aA ad) s.heap H locs → lv_has ls nL lv → W p l e R s m args below meth c H locs 0 0 Q (F0 m pc ls st)
/-- the world of a state -/
def WO (D : va_G) (ad : Nat → Nat) (h : HM) (U : State) : Prop := hw D ad h U.heap ∧ va_K D vwCl (tysL D) U ∧ inj ad
def Qx (D : va_G) (ad : Nat → Nat) (post : Option Value → HM → Prop) : Array Value → State → Outcome → State → Prop := fun _ st oc t => (∃ (v : Option Value) (h1 : HM), oc = .returned v ∧ post v h1 ∧ WO D ad h1 t) ∧ va_F (aA ad) st t
/-- a method's contract that makes no cell: from the map h, with these arguments -/
def Ct (l : Launch) (y : MethodName) (ws : List Cond) (fr lo : Nat) (D : va_G) (ad : Nat → Nat) (av : List Value) (h : HM) (post : Option Value → HM → Prop) : Prop :=
  Met l y ws { frames := fr, cells := 0, slots := 0, locals := lo } (va_Pc av (WO D ad h)) (Qx D ad post) 0 0 (aA ad)
theorem Ct.weaken {l : Launch} {y : MethodName} {ws : List Cond} {fr lo : Nat} {D : va_G} {ad : Nat → Nat} {av : List Value} {h : HM} {post post' : Option Value → HM → Prop} (hc : Ct l y ws fr lo D ad av h post) (hp : ∀ v h1, post v h1 → post' v h1) : Ct l y ws fr lo D ad av h post' := by
  intro p e ha hcx hk s m args below hf hap hPc hT
  obtain ⟨t, o, h1, h2, h3, ⟨⟨⟨v, h4, h5, h6, h7⟩, h8⟩, h9⟩⟩ := hc p e ha hcx hk s m args below hf hap hPc hT
  exact ⟨t, o, h1, h2, h3, ⟨⟨⟨v, h4, h5, hp _ _ h6, h7⟩, h8⟩, h9⟩⟩

theorem i0R : -2147483648 ≤ (0 : Int) ∧ (0 : Int) < 2147483648 := by decide
section WK
variable {p : Program} {l : Launch} {e : Env} {R : Room} {s : State} {m : MethodId} {args : Array Value} {below : List Frame} {meth : Method} {c : Code} {D : va_G} {ad : Nat → Nat} {cc : ByteArray} {nL : Nat} {ret : Option FieldType} {own : String} {Ts : List Cond} {Q : State → Prop} {h : HM} {pc : Nat} {lv : List (Nat × Value)} {st : List Value}
theorem x_iconst (C : Fx p s m args meth c D ad cc nL ret own Ts) {n : Int} (hd : decode cc pc = .ok (.iconst n, 1))  (k : X p l e R s m args below meth c D ad nL Q h (pc + 1) lv (vi n :: st)) : X p l e R s m args below meth c D ad nL Q h pc lv st :=
  fun H locs ls hh hs hl => lv_iconst C.1 C.2.1 hd rfl (k H locs ls hh hs hl)
theorem x_bipush (C : Fx p s m args meth c D ad cc nL ret own Ts) {n : Int} {z : Int} (hd : decode cc pc = .ok (.bipush n, 2)) (hz : (Int8.ofInt n).toInt32 = iI z) (k : X p l e R s m args below meth c D ad nL Q h (pc + 2) lv (vi z :: st)) : X p l e R s m args below meth c D ad nL Q h pc lv st :=
  fun H locs ls hh hs hl => lv_bipush C.1 C.2.1 hd hz (k H locs ls hh hs hl)
theorem x_sipush (C : Fx p s m args meth c D ad cc nL ret own Ts) {n : Int} {z : Int} (hd : decode cc pc = .ok (.sipush n, 3)) (hz : (Int16.ofInt n).toInt32 = iI z) (k : X p l e R s m args below meth c D ad nL Q h (pc + 3) lv (vi z :: st)) : X p l e R s m args below meth c D ad nL Q h pc lv st :=
  fun H locs ls hh hs hl => lv_sipush C.1 C.2.1 hd hz (k H locs ls hh hs hl)
theorem x_lconst0 (C : Fx p s m args meth c D ad cc nL ret own Ts)  (hd : decode cc pc = .ok (.lconst 0, 1))  (k : X p l e R s m args below meth c D ad nL Q h (pc + 1) lv (vl 0 :: st)) : X p l e R s m args below meth c D ad nL Q h pc lv st :=
  fun H locs ls hh hs hl => lv_lconst C.1 C.2.1 hd rfl (k H locs ls hh hs hl)
theorem x_lconst1 (C : Fx p s m args meth c D ad cc nL ret own Ts)  (hd : decode cc pc = .ok (.lconst 1, 1))  (k : X p l e R s m args below meth c D ad nL Q h (pc + 1) lv (vl 1 :: st)) : X p l e R s m args below meth c D ad nL Q h pc lv st :=
  fun H locs ls hh hs hl => lv_lconst C.1 C.2.1 hd rfl (k H locs ls hh hs hl)
theorem x_ldc (C : Fx p s m args meth c D ad cc nL ret own Ts) {index : Nat} {v : Int32} {z : Int} (hd : decode cc pc = .ok (.ldc index, 2)) (hc : (Cond.constant own index v).before args s = true) (hz : v = iI z) (k : X p l e R s m args below meth c D ad nL Q h (pc + 2) lv (vi z :: st)) : X p l e R s m args below meth c D ad nL Q h pc lv st :=
  fun H locs ls hh hs hl => lv_ldc C.1 C.2.1 C.2.2.2.1 hc hd (hz ▸ k H locs ls hh hs hl)
theorem x_ldc2 (C : Fx p s m args meth c D ad cc nL ret own Ts) {index : Nat} {v : Int64} {z : Int} (hd : decode cc pc = .ok (.ldc2_w index, 3)) (hc : (Cond.constantLong own index v).before args s = true) (hz : v = lI z) (k : X p l e R s m args below meth c D ad nL Q h (pc + 3) lv (vl z :: st)) : X p l e R s m args below meth c D ad nL Q h pc lv st :=
  fun H locs ls hh hs hl => lv_ldc2 C.1 C.2.1 C.2.2.2.1 hc hd (hz ▸ k H locs ls hh hs hl)
theorem x_iload_n (C : Fx p s m args meth c D ad cc nL ret own Ts) {k0 : Fin 4} {i : Nat} {x : Int32} (hd : decode cc pc = .ok (.iload_n k0, 1)) (hi : (k0 : Nat) = i) (hx : lk i lv = some (.int x)) (k : X p l e R s m args below meth c D ad nL Q h (pc + 1) lv (.int x :: st)) : X p l e R s m args below meth c D ad nL Q h pc lv st :=
  fun H locs ls hh hs hl => lv_iload_n C.1 C.2.1 hd hi (lk_at hl hx) (k H locs ls hh hs hl)
theorem x_iload (C : Fx p s m args meth c D ad cc nL ret own Ts) {i : Nat} {x : Int32} (hd : decode cc pc = .ok (.iload i, 2)) (hx : lk i lv = some (.int x)) (k : X p l e R s m args below meth c D ad nL Q h (pc + 2) lv (.int x :: st)) : X p l e R s m args below meth c D ad nL Q h pc lv st :=
  fun H locs ls hh hs hl => lv_iload C.1 C.2.1 hd (lk_at hl hx) (k H locs ls hh hs hl)
theorem x_istore_n (C : Fx p s m args meth c D ad cc nL ret own Ts) {k0 : Fin 4} {i : Nat} {x : Int32} {lv' : List (Nat × Value)} (hd : decode cc pc = .ok (.istore_n k0, 1)) (hi : (k0 : Nat) = i) (hn : i < nL) (hx : (i, Value.int x) :: lv.filter (fun q => !(q.1 == i) && !(q.1 + 1 == i && q.2.category == 2)) = lv') (k : X p l e R s m args below meth c D ad nL Q h (pc + 1) lv' st) : X p l e R s m args below meth c D ad nL Q h pc lv (.int x :: st) :=
  fun H locs ls hh hs hl => lv_istore_n C.1 C.2.1 hd hi hl hn hx (fun ls hl => k H locs ls hh hs hl)
theorem x_istore (C : Fx p s m args meth c D ad cc nL ret own Ts) {i : Nat} {x : Int32} {lv' : List (Nat × Value)} (hd : decode cc pc = .ok (.istore i, 2)) (hn : i < nL) (hx : (i, Value.int x) :: lv.filter (fun q => !(q.1 == i) && !(q.1 + 1 == i && q.2.category == 2)) = lv') (k : X p l e R s m args below meth c D ad nL Q h (pc + 2) lv' st) : X p l e R s m args below meth c D ad nL Q h pc lv (.int x :: st) :=
  fun H locs ls hh hs hl => lv_istore C.1 C.2.1 hd hl hn hx (fun ls hl => k H locs ls hh hs hl)
theorem x_lload_n (C : Fx p s m args meth c D ad cc nL ret own Ts) {k0 : Fin 4} {i : Nat} {x : Int64} (hd : decode cc pc = .ok (.lload_n k0, 1)) (hi : (k0 : Nat) = i) (hx : lk i lv = some (.long x)) (k : X p l e R s m args below meth c D ad nL Q h (pc + 1) lv (.long x :: st)) : X p l e R s m args below meth c D ad nL Q h pc lv st :=
  fun H locs ls hh hs hl => lv_lload_n C.1 C.2.1 hd hi (lk_at hl hx) (k H locs ls hh hs hl)
theorem x_lload (C : Fx p s m args meth c D ad cc nL ret own Ts) {i : Nat} {x : Int64} (hd : decode cc pc = .ok (.lload i, 2)) (hx : lk i lv = some (.long x)) (k : X p l e R s m args below meth c D ad nL Q h (pc + 2) lv (.long x :: st)) : X p l e R s m args below meth c D ad nL Q h pc lv st :=
  fun H locs ls hh hs hl => lv_lload C.1 C.2.1 hd (lk_at hl hx) (k H locs ls hh hs hl)
theorem x_lstore_n (C : Fx p s m args meth c D ad cc nL ret own Ts) {k0 : Fin 4} {i : Nat} {x : Int64} {lv' : List (Nat × Value)} (hd : decode cc pc = .ok (.lstore_n k0, 1)) (hi : (k0 : Nat) = i) (hn : i + 1 < nL) (hx : (i, Value.long x) :: lv.filter (fun q => !(q.1 == i) && (!(q.1 == i + 1) && !(q.1 + 1 == i && q.2.category == 2))) = lv') (k : X p l e R s m args below meth c D ad nL Q h (pc + 1) lv' st) : X p l e R s m args below meth c D ad nL Q h pc lv (.long x :: st) :=
  fun H locs ls hh hs hl => lv_lstore_n C.1 C.2.1 hd hi hl hn hx (fun ls hl => k H locs ls hh hs hl)
theorem x_lstore (C : Fx p s m args meth c D ad cc nL ret own Ts) {i : Nat} {x : Int64} {lv' : List (Nat × Value)} (hd : decode cc pc = .ok (.lstore i, 2)) (hn : i + 1 < nL) (hx : (i, Value.long x) :: lv.filter (fun q => !(q.1 == i) && (!(q.1 == i + 1) && !(q.1 + 1 == i && q.2.category == 2))) = lv') (k : X p l e R s m args below meth c D ad nL Q h (pc + 2) lv' st) : X p l e R s m args below meth c D ad nL Q h pc lv (.long x :: st) :=
  fun H locs ls hh hs hl => lv_lstore C.1 C.2.1 hd hl hn hx (fun ls hl => k H locs ls hh hs hl)
theorem x_aload_n (C : Fx p s m args meth c D ad cc nL ret own Ts) {k0 : Fin 4} {i : Nat} {x : Nat} (hd : decode cc pc = .ok (.aload_n k0, 1)) (hi : (k0 : Nat) = i) (hx : lk i lv = some (.ref x)) (k : X p l e R s m args below meth c D ad nL Q h (pc + 1) lv (.ref x :: st)) : X p l e R s m args below meth c D ad nL Q h pc lv st :=
  fun H locs ls hh hs hl => lv_aload_n C.1 C.2.1 hd hi (lk_at hl hx) (k H locs ls hh hs hl)
theorem x_aload (C : Fx p s m args meth c D ad cc nL ret own Ts) {i : Nat} {x : Nat} (hd : decode cc pc = .ok (.aload i, 2)) (hx : lk i lv = some (.ref x)) (k : X p l e R s m args below meth c D ad nL Q h (pc + 2) lv (.ref x :: st)) : X p l e R s m args below meth c D ad nL Q h pc lv st :=
  fun H locs ls hh hs hl => lv_aload C.1 C.2.1 hd (lk_at hl hx) (k H locs ls hh hs hl)
theorem x_astore_n (C : Fx p s m args meth c D ad cc nL ret own Ts) {k0 : Fin 4} {i : Nat} {x : Nat} {lv' : List (Nat × Value)} (hd : decode cc pc = .ok (.astore_n k0, 1)) (hi : (k0 : Nat) = i) (hn : i < nL) (hx : (i, Value.ref x) :: lv.filter (fun q => !(q.1 == i) && !(q.1 + 1 == i && q.2.category == 2)) = lv') (k : X p l e R s m args below meth c D ad nL Q h (pc + 1) lv' st) : X p l e R s m args below meth c D ad nL Q h pc lv (.ref x :: st) :=
  fun H locs ls hh hs hl => lv_astore_n C.1 C.2.1 hd hi hl hn hx (fun ls hl => k H locs ls hh hs hl)
theorem x_astore (C : Fx p s m args meth c D ad cc nL ret own Ts) {i : Nat} {x : Nat} {lv' : List (Nat × Value)} (hd : decode cc pc = .ok (.astore i, 2)) (hn : i < nL) (hx : (i, Value.ref x) :: lv.filter (fun q => !(q.1 == i) && !(q.1 + 1 == i && q.2.category == 2)) = lv') (k : X p l e R s m args below meth c D ad nL Q h (pc + 2) lv' st) : X p l e R s m args below meth c D ad nL Q h pc lv (.ref x :: st) :=
  fun H locs ls hh hs hl => lv_astore C.1 C.2.1 hd hl hn hx (fun ls hl => k H locs ls hh hs hl)
theorem lk_ix : ∀ {lv : List (Nat × Value)} {i : Nat} {v : Value}, lk i lv = some v → ∃ k : Nat, lv[k]? = some (i, v)
  | [], _, _, h => by cases h
  | q :: r, i, v, h => by
    unfold lk at h
    cases hb : Nat.beq q.1 i with
    | true =>
      rw [hb] at h
      have e1 := Nat.eq_of_beq_eq_true hb
      have e2 : q.2 = v := Option.some.inj h
      exact ⟨0, by rw [← e1, ← e2]; rfl⟩
    | false =>
      rw [hb] at h
      obtain ⟨k, hk⟩ := lk_ix h
      exact ⟨k + 1, hk⟩
theorem x_iinc (C : Fx p s m args meth c D ad cc nL ret own Ts) {i : Nat} {n z : Int} {lv' : List (Nat × Value)} (hd : decode cc pc = .ok (.iinc i n, 3)) (hz : lk i lv = some (vi z)) (hn : i < nL) (hx : (i, vi (z + n)) :: lv.filter (fun q => !(q.1 == i) && !(q.1 + 1 == i && q.2.category == 2)) = lv') (k : X p l e R s m args below meth c D ad nL Q h (pc + 3) lv' st) : X p l e R s m args below meth c D ad nL Q h pc lv st := by
  intro H locs ls hh hs hl
  obtain ⟨kk, hk⟩ := lk_ix hz
  exact lv_iinc C.1 C.2.1 hd hl hk (iI_add z n) hn hx (fun ls hl => k H locs ls hh hs hl)
theorem x_iadd (C : Fx p s m args meth c D ad cc nL ret own Ts) {a b : Int} (hd : decode cc pc = .ok (.iadd, 1)) (k : X p l e R s m args below meth c D ad nL Q h (pc + 1) lv (vi (a + b) :: st)) : X p l e R s m args below meth c D ad nL Q h pc lv (vi b :: vi a :: st) :=
  fun H locs ls hh hs hl => lv_iadd C.1 C.2.1 hd (by rw [iI_add]; exact k H locs ls hh hs hl)
theorem x_isub (C : Fx p s m args meth c D ad cc nL ret own Ts) {a b : Int} (hd : decode cc pc = .ok (.isub, 1)) (k : X p l e R s m args below meth c D ad nL Q h (pc + 1) lv (vi (a - b) :: st)) : X p l e R s m args below meth c D ad nL Q h pc lv (vi b :: vi a :: st) :=
  fun H locs ls hh hs hl => lv_isub C.1 C.2.1 hd (by rw [iI_sub]; exact k H locs ls hh hs hl)
theorem x_imul (C : Fx p s m args meth c D ad cc nL ret own Ts) {a b : Int} (hd : decode cc pc = .ok (.imul, 1)) (k : X p l e R s m args below meth c D ad nL Q h (pc + 1) lv (vi (a * b) :: st)) : X p l e R s m args below meth c D ad nL Q h pc lv (vi b :: vi a :: st) :=
  fun H locs ls hh hs hl => lv_imul C.1 C.2.1 hd (by rw [iI_mul]; exact k H locs ls hh hs hl)
theorem x_iand (C : Fx p s m args meth c D ad cc nL ret own Ts) {x y : Int32} {z : Int} (hd : decode cc pc = .ok (.iand, 1)) (hz : x &&& y = iI z) (k : X p l e R s m args below meth c D ad nL Q h (pc + 1) lv (vi z :: st)) : X p l e R s m args below meth c D ad nL Q h pc lv (.int y :: .int x :: st) :=
  fun H locs ls hh hs hl => lv_iand C.1 C.2.1 hd (by rw [hz]; exact k H locs ls hh hs hl)
theorem x_ior (C : Fx p s m args meth c D ad cc nL ret own Ts) {x y : Int32} {z : Int} (hd : decode cc pc = .ok (.ior, 1)) (hz : x ||| y = iI z) (k : X p l e R s m args below meth c D ad nL Q h (pc + 1) lv (vi z :: st)) : X p l e R s m args below meth c D ad nL Q h pc lv (.int y :: .int x :: st) :=
  fun H locs ls hh hs hl => lv_ior C.1 C.2.1 hd (by rw [hz]; exact k H locs ls hh hs hl)
theorem x_ixor (C : Fx p s m args meth c D ad cc nL ret own Ts) {x y : Int32} {z : Int} (hd : decode cc pc = .ok (.ixor, 1)) (hz : x ^^^ y = iI z) (k : X p l e R s m args below meth c D ad nL Q h (pc + 1) lv (vi z :: st)) : X p l e R s m args below meth c D ad nL Q h pc lv (.int y :: .int x :: st) :=
  fun H locs ls hh hs hl => lv_ixor C.1 C.2.1 hd (by rw [hz]; exact k H locs ls hh hs hl)
theorem x_idiv (C : Fx p s m args meth c D ad cc nL ret own Ts) {a b : Int} {z : Int} (hd : decode cc pc = .ok (.idiv, 1)) (hne : ¬ iI b = 0) (hz : iI a / iI b = iI z) (k : X p l e R s m args below meth c D ad nL Q h (pc + 1) lv (vi z :: st)) : X p l e R s m args below meth c D ad nL Q h pc lv (vi b :: vi a :: st) :=
  fun H locs ls hh hs hl => lv_idiv C.1 C.2.1 hd hne (by rw [hz]; exact k H locs ls hh hs hl)
theorem x_ladd (C : Fx p s m args meth c D ad cc nL ret own Ts) {a b : Int} (hd : decode cc pc = .ok (.ladd, 1)) (k : X p l e R s m args below meth c D ad nL Q h (pc + 1) lv (vl (a + b) :: st)) : X p l e R s m args below meth c D ad nL Q h pc lv (vl b :: vl a :: st) :=
  fun H locs ls hh hs hl => lv_ladd C.1 C.2.1 hd (by rw [lI_add]; exact k H locs ls hh hs hl)
theorem x_lsub (C : Fx p s m args meth c D ad cc nL ret own Ts) {a b : Int} (hd : decode cc pc = .ok (.lsub, 1)) (k : X p l e R s m args below meth c D ad nL Q h (pc + 1) lv (vl (a - b) :: st)) : X p l e R s m args below meth c D ad nL Q h pc lv (vl b :: vl a :: st) :=
  fun H locs ls hh hs hl => lv_lsub C.1 C.2.1 hd (by rw [lI_sub]; exact k H locs ls hh hs hl)
theorem x_lmul (C : Fx p s m args meth c D ad cc nL ret own Ts) {a b : Int} (hd : decode cc pc = .ok (.lmul, 1)) (k : X p l e R s m args below meth c D ad nL Q h (pc + 1) lv (vl (a * b) :: st)) : X p l e R s m args below meth c D ad nL Q h pc lv (vl b :: vl a :: st) :=
  fun H locs ls hh hs hl => lv_lmul C.1 C.2.1 hd (by rw [lI_mul]; exact k H locs ls hh hs hl)
theorem x_land (C : Fx p s m args meth c D ad cc nL ret own Ts) {x y : Int64} {z : Int} (hd : decode cc pc = .ok (.land, 1)) (hz : x &&& y = lI z) (k : X p l e R s m args below meth c D ad nL Q h (pc + 1) lv (vl z :: st)) : X p l e R s m args below meth c D ad nL Q h pc lv (.long y :: .long x :: st) :=
  fun H locs ls hh hs hl => lv_land C.1 C.2.1 hd (by rw [hz]; exact k H locs ls hh hs hl)
theorem x_lor (C : Fx p s m args meth c D ad cc nL ret own Ts) {x y : Int64} {z : Int} (hd : decode cc pc = .ok (.lor, 1)) (hz : x ||| y = lI z) (k : X p l e R s m args below meth c D ad nL Q h (pc + 1) lv (vl z :: st)) : X p l e R s m args below meth c D ad nL Q h pc lv (.long y :: .long x :: st) :=
  fun H locs ls hh hs hl => lv_lor C.1 C.2.1 hd (by rw [hz]; exact k H locs ls hh hs hl)
theorem x_lxor (C : Fx p s m args meth c D ad cc nL ret own Ts) {x y : Int64} {z : Int} (hd : decode cc pc = .ok (.lxor, 1)) (hz : x ^^^ y = lI z) (k : X p l e R s m args below meth c D ad nL Q h (pc + 1) lv (vl z :: st)) : X p l e R s m args below meth c D ad nL Q h pc lv (.long y :: .long x :: st) :=
  fun H locs ls hh hs hl => lv_lxor C.1 C.2.1 hd (by rw [hz]; exact k H locs ls hh hs hl)
theorem x_ldiv (C : Fx p s m args meth c D ad cc nL ret own Ts) {a b : Int} {z : Int} (hd : decode cc pc = .ok (.ldiv, 1)) (hne : ¬ lI b = 0) (hz : lI a / lI b = lI z) (k : X p l e R s m args below meth c D ad nL Q h (pc + 1) lv (vl z :: st)) : X p l e R s m args below meth c D ad nL Q h pc lv (vl b :: vl a :: st) :=
  fun H locs ls hh hs hl => lv_ldiv C.1 C.2.1 hd hne (by rw [hz]; exact k H locs ls hh hs hl)
theorem x_ishl (C : Fx p s m args meth c D ad cc nL ret own Ts) {a n : Int} (hd : decode cc pc = .ok (.ishl, 1)) (hn : 0 ≤ n ∧ n < 32) (k : X p l e R s m args below meth c D ad nL Q h (pc + 1) lv (vi (a * 2 ^ n.toNat) :: st)) : X p l e R s m args below meth c D ad nL Q h pc lv (vi n :: vi a :: st) :=
  fun H locs ls hh hs hl => lv_ishl C.1 C.2.1 hd (by rw [show n = ((n.toNat : Nat) : Int) by omega, iI_shl a n.toNat (by omega)]; exact k H locs ls hh hs hl)
theorem x_ishr (C : Fx p s m args meth c D ad cc nL ret own Ts) {a n : Int} (hd : decode cc pc = .ok (.ishr, 1)) (hn : 0 ≤ n ∧ n < 32) (ha : -2147483648 ≤ a ∧ a < 2147483648) (k : X p l e R s m args below meth c D ad nL Q h (pc + 1) lv (vi (a / 2 ^ n.toNat) :: st)) : X p l e R s m args below meth c D ad nL Q h pc lv (vi n :: vi a :: st) :=
  fun H locs ls hh hs hl => lv_ishr C.1 C.2.1 hd (by rw [show n = ((n.toNat : Nat) : Int) by omega, iI_shr ha n.toNat (by omega)]; exact k H locs ls hh hs hl)
theorem x_lshl (C : Fx p s m args meth c D ad cc nL ret own Ts) {a n : Int} (hd : decode cc pc = .ok (.lshl, 1)) (hn : 0 ≤ n ∧ n < 64) (k : X p l e R s m args below meth c D ad nL Q h (pc + 1) lv (vl (a * 2 ^ n.toNat) :: st)) : X p l e R s m args below meth c D ad nL Q h pc lv (vi n :: vl a :: st) :=
  fun H locs ls hh hs hl => lv_lshl C.1 C.2.1 hd (by rw [show n = ((n.toNat : Nat) : Int) by omega]; exact lI_shl a n.toNat (by omega)) (k H locs ls hh hs hl)
theorem x_lshr (C : Fx p s m args meth c D ad cc nL ret own Ts) {a n : Int} (hd : decode cc pc = .ok (.lshr, 1)) (hn : 0 ≤ n ∧ n < 64) (ha : -9223372036854775808 ≤ a ∧ a < 9223372036854775808) (k : X p l e R s m args below meth c D ad nL Q h (pc + 1) lv (vl (a / 2 ^ n.toNat) :: st)) : X p l e R s m args below meth c D ad nL Q h pc lv (vi n :: vl a :: st) :=
  fun H locs ls hh hs hl => lv_lshr C.1 C.2.1 hd (by rw [show n = ((n.toNat : Nat) : Int) by omega]; exact lI_shr ha n.toNat (by omega)) (k H locs ls hh hs hl)
theorem x_i2l (C : Fx p s m args meth c D ad cc nL ret own Ts) {a : Int} (hd : decode cc pc = .ok (.i2l, 1)) (ha : -2147483648 ≤ a ∧ a < 2147483648) (k : X p l e R s m args below meth c D ad nL Q h (pc + 1) lv (vl a :: st)) : X p l e R s m args below meth c D ad nL Q h pc lv (vi a :: st) :=
  fun H locs ls hh hs hl => lv_i2l C.1 C.2.1 hd (iI_l ha) (k H locs ls hh hs hl)
theorem x_l2i (C : Fx p s m args meth c D ad cc nL ret own Ts) {a : Int} (hd : decode cc pc = .ok (.l2i, 1)) (k : X p l e R s m args below meth c D ad nL Q h (pc + 1) lv (vi a :: st)) : X p l e R s m args below meth c D ad nL Q h pc lv (vl a :: st) :=
  fun H locs ls hh hs hl => lv_l2i C.1 C.2.1 hd (lI_i a) (k H locs ls hh hs hl)
theorem x_dup (C : Fx p s m args meth c D ad cc nL ret own Ts) {va : Value} (hd : decode cc pc = .ok (.dup, 1)) (hv : va.category = 1) (k : X p l e R s m args below meth c D ad nL Q h (pc + 1) lv (va :: va :: st)) : X p l e R s m args below meth c D ad nL Q h pc lv (va :: st) :=
  fun H locs ls hh hs hl => lv_dup C.1 C.2.1 hd hv (k H locs ls hh hs hl)
theorem x_pop (C : Fx p s m args meth c D ad cc nL ret own Ts) {va : Value} (hd : decode cc pc = .ok (.pop, 1)) (hv : va.category = 1) (k : X p l e R s m args below meth c D ad nL Q h (pc + 1) lv st) : X p l e R s m args below meth c D ad nL Q h pc lv (va :: st) :=
  fun H locs ls hh hs hl => lv_pop C.1 C.2.1 hd hv (k H locs ls hh hs hl)
theorem x_dup2 (C : Fx p s m args meth c D ad cc nL ret own Ts) {va vb : Value} (hd : decode cc pc = .ok (.dup2, 1)) (hv : va.category = 1) (hb : vb.category = 1) (k : X p l e R s m args below meth c D ad nL Q h (pc + 1) lv (va :: vb :: va :: vb :: st)) : X p l e R s m args below meth c D ad nL Q h pc lv (va :: vb :: st) :=
  fun H locs ls hh hs hl => lv_dup2_11 C.1 C.2.1 hd hv hb (k H locs ls hh hs hl)
theorem x_icmp_lt (C : Fx p s m args meth c D ad cc nL ret own Ts) {a b : Int} {off : Int} {tgt : Nat} (hd : decode cc pc = .ok (.if_icmp .lt off, 3)) (ht : (pc : Int) + off = (tgt : Int)) (ha : -2147483648 ≤ a ∧ a < 2147483648) (hb : -2147483648 ≤ b ∧ b < 2147483648) (k1 : a < b → X p l e R s m args below meth c D ad nL Q h tgt lv st) (k2 : ¬ (a < b) → X p l e R s m args below meth c D ad nL Q h (pc + 3) lv st) : X p l e R s m args below meth c D ad nL Q h pc lv (vi b :: vi a :: st) :=
  fun H locs ls hh hs hl => lv_icmp_lt C.1 C.2.1 hd ht (fun q => k1 ((iI_lt ha hb).mp q) H locs ls hh hs hl) (fun q => k2 (fun z => q ((iI_lt ha hb).mpr z)) H locs ls hh hs hl)
theorem x_if_lt (C : Fx p s m args meth c D ad cc nL ret own Ts) {a : Int} {off : Int} {tgt : Nat} (hd : decode cc pc = .ok (.ifCond .lt off, 3)) (ht : (pc : Int) + off = (tgt : Int)) (ha : -2147483648 ≤ a ∧ a < 2147483648) (k1 : a < 0 → X p l e R s m args below meth c D ad nL Q h tgt lv st) (k2 : ¬ (a < 0) → X p l e R s m args below meth c D ad nL Q h (pc + 3) lv st) : X p l e R s m args below meth c D ad nL Q h pc lv (vi a :: st) :=
  fun H locs ls hh hs hl => lv_if_lt C.1 C.2.1 hd ht (fun q => k1 ((iI_lt ha i0R).mp q) H locs ls hh hs hl) (fun q => k2 (fun z => q ((iI_lt ha i0R).mpr z)) H locs ls hh hs hl)
theorem x_icmp_le (C : Fx p s m args meth c D ad cc nL ret own Ts) {a b : Int} {off : Int} {tgt : Nat} (hd : decode cc pc = .ok (.if_icmp .le off, 3)) (ht : (pc : Int) + off = (tgt : Int)) (ha : -2147483648 ≤ a ∧ a < 2147483648) (hb : -2147483648 ≤ b ∧ b < 2147483648) (k1 : a ≤ b → X p l e R s m args below meth c D ad nL Q h tgt lv st) (k2 : ¬ (a ≤ b) → X p l e R s m args below meth c D ad nL Q h (pc + 3) lv st) : X p l e R s m args below meth c D ad nL Q h pc lv (vi b :: vi a :: st) :=
  fun H locs ls hh hs hl => lv_icmp_le C.1 C.2.1 hd ht (fun q => k1 ((iI_le ha hb).mp q) H locs ls hh hs hl) (fun q => k2 (fun z => q ((iI_le ha hb).mpr z)) H locs ls hh hs hl)
theorem x_if_le (C : Fx p s m args meth c D ad cc nL ret own Ts) {a : Int} {off : Int} {tgt : Nat} (hd : decode cc pc = .ok (.ifCond .le off, 3)) (ht : (pc : Int) + off = (tgt : Int)) (ha : -2147483648 ≤ a ∧ a < 2147483648) (k1 : a ≤ 0 → X p l e R s m args below meth c D ad nL Q h tgt lv st) (k2 : ¬ (a ≤ 0) → X p l e R s m args below meth c D ad nL Q h (pc + 3) lv st) : X p l e R s m args below meth c D ad nL Q h pc lv (vi a :: st) :=
  fun H locs ls hh hs hl => lv_if_le C.1 C.2.1 hd ht (fun q => k1 ((iI_le ha i0R).mp q) H locs ls hh hs hl) (fun q => k2 (fun z => q ((iI_le ha i0R).mpr z)) H locs ls hh hs hl)
theorem x_icmp_gt (C : Fx p s m args meth c D ad cc nL ret own Ts) {a b : Int} {off : Int} {tgt : Nat} (hd : decode cc pc = .ok (.if_icmp .gt off, 3)) (ht : (pc : Int) + off = (tgt : Int)) (ha : -2147483648 ≤ a ∧ a < 2147483648) (hb : -2147483648 ≤ b ∧ b < 2147483648) (k1 : b < a → X p l e R s m args below meth c D ad nL Q h tgt lv st) (k2 : ¬ (b < a) → X p l e R s m args below meth c D ad nL Q h (pc + 3) lv st) : X p l e R s m args below meth c D ad nL Q h pc lv (vi b :: vi a :: st) :=
  fun H locs ls hh hs hl => lv_icmp_gt C.1 C.2.1 hd ht (fun q => k1 ((iI_lt hb ha).mp q) H locs ls hh hs hl) (fun q => k2 (fun z => q ((iI_lt hb ha).mpr z)) H locs ls hh hs hl)
theorem x_if_gt (C : Fx p s m args meth c D ad cc nL ret own Ts) {a : Int} {off : Int} {tgt : Nat} (hd : decode cc pc = .ok (.ifCond .gt off, 3)) (ht : (pc : Int) + off = (tgt : Int)) (ha : -2147483648 ≤ a ∧ a < 2147483648) (k1 : 0 < a → X p l e R s m args below meth c D ad nL Q h tgt lv st) (k2 : ¬ (0 < a) → X p l e R s m args below meth c D ad nL Q h (pc + 3) lv st) : X p l e R s m args below meth c D ad nL Q h pc lv (vi a :: st) :=
  fun H locs ls hh hs hl => lv_if_gt C.1 C.2.1 hd ht (fun q => k1 ((iI_lt i0R ha).mp q) H locs ls hh hs hl) (fun q => k2 (fun z => q ((iI_lt i0R ha).mpr z)) H locs ls hh hs hl)
theorem x_icmp_ge (C : Fx p s m args meth c D ad cc nL ret own Ts) {a b : Int} {off : Int} {tgt : Nat} (hd : decode cc pc = .ok (.if_icmp .ge off, 3)) (ht : (pc : Int) + off = (tgt : Int)) (ha : -2147483648 ≤ a ∧ a < 2147483648) (hb : -2147483648 ≤ b ∧ b < 2147483648) (k1 : b ≤ a → X p l e R s m args below meth c D ad nL Q h tgt lv st) (k2 : ¬ (b ≤ a) → X p l e R s m args below meth c D ad nL Q h (pc + 3) lv st) : X p l e R s m args below meth c D ad nL Q h pc lv (vi b :: vi a :: st) :=
  fun H locs ls hh hs hl => lv_icmp_ge C.1 C.2.1 hd ht (fun q => k1 ((iI_le hb ha).mp q) H locs ls hh hs hl) (fun q => k2 (fun z => q ((iI_le hb ha).mpr z)) H locs ls hh hs hl)
theorem x_if_ge (C : Fx p s m args meth c D ad cc nL ret own Ts) {a : Int} {off : Int} {tgt : Nat} (hd : decode cc pc = .ok (.ifCond .ge off, 3)) (ht : (pc : Int) + off = (tgt : Int)) (ha : -2147483648 ≤ a ∧ a < 2147483648) (k1 : 0 ≤ a → X p l e R s m args below meth c D ad nL Q h tgt lv st) (k2 : ¬ (0 ≤ a) → X p l e R s m args below meth c D ad nL Q h (pc + 3) lv st) : X p l e R s m args below meth c D ad nL Q h pc lv (vi a :: st) :=
  fun H locs ls hh hs hl => lv_if_ge C.1 C.2.1 hd ht (fun q => k1 ((iI_le i0R ha).mp q) H locs ls hh hs hl) (fun q => k2 (fun z => q ((iI_le i0R ha).mpr z)) H locs ls hh hs hl)
theorem x_icmp_eq (C : Fx p s m args meth c D ad cc nL ret own Ts) {a b : Int} {off : Int} {tgt : Nat} (hd : decode cc pc = .ok (.if_icmp .eq off, 3)) (ht : (pc : Int) + off = (tgt : Int)) (ha : -2147483648 ≤ a ∧ a < 2147483648) (hb : -2147483648 ≤ b ∧ b < 2147483648) (k1 : a = b → X p l e R s m args below meth c D ad nL Q h tgt lv st) (k2 : ¬ (a = b) → X p l e R s m args below meth c D ad nL Q h (pc + 3) lv st) : X p l e R s m args below meth c D ad nL Q h pc lv (vi b :: vi a :: st) :=
  fun H locs ls hh hs hl => lv_icmp_eq C.1 C.2.1 hd ht (fun q => k1 ((iI_eq ha hb).mp q) H locs ls hh hs hl) (fun q => k2 (fun z => q ((iI_eq ha hb).mpr z)) H locs ls hh hs hl)
theorem x_if_eq (C : Fx p s m args meth c D ad cc nL ret own Ts) {a : Int} {off : Int} {tgt : Nat} (hd : decode cc pc = .ok (.ifCond .eq off, 3)) (ht : (pc : Int) + off = (tgt : Int)) (ha : -2147483648 ≤ a ∧ a < 2147483648) (k1 : a = 0 → X p l e R s m args below meth c D ad nL Q h tgt lv st) (k2 : ¬ (a = 0) → X p l e R s m args below meth c D ad nL Q h (pc + 3) lv st) : X p l e R s m args below meth c D ad nL Q h pc lv (vi a :: st) :=
  fun H locs ls hh hs hl => lv_if_eq C.1 C.2.1 hd ht (fun q => k1 ((iI_eq ha i0R).mp q) H locs ls hh hs hl) (fun q => k2 (fun z => q ((iI_eq ha i0R).mpr z)) H locs ls hh hs hl)
theorem x_icmp_ne (C : Fx p s m args meth c D ad cc nL ret own Ts) {a b : Int} {off : Int} {tgt : Nat} (hd : decode cc pc = .ok (.if_icmp .ne off, 3)) (ht : (pc : Int) + off = (tgt : Int)) (ha : -2147483648 ≤ a ∧ a < 2147483648) (hb : -2147483648 ≤ b ∧ b < 2147483648) (k1 : a ≠ b → X p l e R s m args below meth c D ad nL Q h tgt lv st) (k2 : a = b → X p l e R s m args below meth c D ad nL Q h (pc + 3) lv st) : X p l e R s m args below meth c D ad nL Q h pc lv (vi b :: vi a :: st) :=
  fun H locs ls hh hs hl => lv_icmp_ne C.1 C.2.1 hd ht (fun q => k1 ((not_congr (iI_eq ha hb)).mp q) H locs ls hh hs hl) (fun q => k2 ((iI_eq ha hb).mp q) H locs ls hh hs hl)
theorem x_if_ne (C : Fx p s m args meth c D ad cc nL ret own Ts) {a : Int} {off : Int} {tgt : Nat} (hd : decode cc pc = .ok (.ifCond .ne off, 3)) (ht : (pc : Int) + off = (tgt : Int)) (ha : -2147483648 ≤ a ∧ a < 2147483648) (k1 : a ≠ 0 → X p l e R s m args below meth c D ad nL Q h tgt lv st) (k2 : a = 0 → X p l e R s m args below meth c D ad nL Q h (pc + 3) lv st) : X p l e R s m args below meth c D ad nL Q h pc lv (vi a :: st) :=
  fun H locs ls hh hs hl => lv_if_ne C.1 C.2.1 hd ht (fun q => k1 ((not_congr (iI_eq ha i0R)).mp q) H locs ls hh hs hl) (fun q => k2 ((iI_eq ha i0R).mp q) H locs ls hh hs hl)
theorem x_goto (C : Fx p s m args meth c D ad cc nL ret own Ts) {off : Int} {tgt : Nat} (hd : decode cc pc = .ok (.goto off, 3)) (ht : (pc : Int) + off = (tgt : Int)) (k : X p l e R s m args below meth c D ad nL Q h tgt lv st) : X p l e R s m args below meth c D ad nL Q h pc lv st :=
  fun H locs ls hh hs hl => lv_goto C.1 C.2.1 hd ht (k H locs ls hh hs hl)
theorem lg_cmpI {a b : Int} (ha : -9223372036854775808 ≤ a ∧ a < 9223372036854775808) (hb : -9223372036854775808 ≤ b ∧ b < 9223372036854775808) : lg_cmp (lI a) (lI b) = iI (if b < a then 1 else if a = b then 0 else -1) := by
  unfold lg_cmp
  by_cases h1 : b < a
  · simp [(lI_lt hb ha).mpr h1, h1]; rfl
  · by_cases h2 : a = b
    · subst h2; simp; rfl
    · have h3 : ¬ lI b < lI a := fun q => h1 ((lI_lt hb ha).mp q)
      have h4 : ¬ lI a = lI b := fun q => h2 ((lI_eq ha hb).mp q)
      simp [h1, h2, h3, h4]; rfl
theorem x_lcmp (C : Fx p s m args meth c D ad cc nL ret own Ts) {a b : Int} (hd : decode cc pc = .ok (.lcmp, 1)) (ha : -9223372036854775808 ≤ a ∧ a < 9223372036854775808) (hb : -9223372036854775808 ≤ b ∧ b < 9223372036854775808) (k : X p l e R s m args below meth c D ad nL Q h (pc + 1) lv (vi (if b < a then 1 else if a = b then 0 else -1) :: st)) : X p l e R s m args below meth c D ad nL Q h pc lv (vl b :: vl a :: st) :=
  fun H locs ls hh hs hl => W.lcmp C.1 C.2.1 hd (by rw [lg_cmpI ha hb]; exact k H locs ls hh hs hl)
theorem x_lif_lt (C : Fx p s m args meth c D ad cc nL ret own Ts) {a b : Int} {off : Int} {tgt : Nat} (hd : decode cc pc = .ok (.lcmp, 1)) (hd2 : decode cc (pc + 1) = .ok (.ifCond .lt off, 3)) (ht : ((pc + 1 : Nat) : Int) + off = (tgt : Int)) (ha : -9223372036854775808 ≤ a ∧ a < 9223372036854775808) (hb : -9223372036854775808 ≤ b ∧ b < 9223372036854775808) (k1 : a < b → X p l e R s m args below meth c D ad nL Q h tgt lv st) (k2 : ¬ (a < b) → X p l e R s m args below meth c D ad nL Q h (pc + 1 + 3) lv st) : X p l e R s m args below meth c D ad nL Q h pc lv (vl b :: vl a :: st) :=
  x_lcmp C hd ha hb (x_if_lt C hd2 ht (by split <;> first | omega | (split <;> omega)) (fun q => k1 (by split at q <;> first | omega | (split at q <;> omega))) (fun q => k2 (by split at q <;> first | omega | (split at q <;> omega))))
theorem x_lif_ge (C : Fx p s m args meth c D ad cc nL ret own Ts) {a b : Int} {off : Int} {tgt : Nat} (hd : decode cc pc = .ok (.lcmp, 1)) (hd2 : decode cc (pc + 1) = .ok (.ifCond .ge off, 3)) (ht : ((pc + 1 : Nat) : Int) + off = (tgt : Int)) (ha : -9223372036854775808 ≤ a ∧ a < 9223372036854775808) (hb : -9223372036854775808 ≤ b ∧ b < 9223372036854775808) (k1 : b ≤ a → X p l e R s m args below meth c D ad nL Q h tgt lv st) (k2 : ¬ (b ≤ a) → X p l e R s m args below meth c D ad nL Q h (pc + 1 + 3) lv st) : X p l e R s m args below meth c D ad nL Q h pc lv (vl b :: vl a :: st) :=
  x_lcmp C hd ha hb (x_if_ge C hd2 ht (by split <;> first | omega | (split <;> omega)) (fun q => k1 (by split at q <;> first | omega | (split at q <;> omega))) (fun q => k2 (by split at q <;> first | omega | (split at q <;> omega))))
theorem x_lif_gt (C : Fx p s m args meth c D ad cc nL ret own Ts) {a b : Int} {off : Int} {tgt : Nat} (hd : decode cc pc = .ok (.lcmp, 1)) (hd2 : decode cc (pc + 1) = .ok (.ifCond .gt off, 3)) (ht : ((pc + 1 : Nat) : Int) + off = (tgt : Int)) (ha : -9223372036854775808 ≤ a ∧ a < 9223372036854775808) (hb : -9223372036854775808 ≤ b ∧ b < 9223372036854775808) (k1 : b < a → X p l e R s m args below meth c D ad nL Q h tgt lv st) (k2 : ¬ (b < a) → X p l e R s m args below meth c D ad nL Q h (pc + 1 + 3) lv st) : X p l e R s m args below meth c D ad nL Q h pc lv (vl b :: vl a :: st) :=
  x_lcmp C hd ha hb (x_if_gt C hd2 ht (by split <;> first | omega | (split <;> omega)) (fun q => k1 (by split at q <;> first | omega | (split at q <;> omega))) (fun q => k2 (by split at q <;> first | omega | (split at q <;> omega))))
theorem x_lif_le (C : Fx p s m args meth c D ad cc nL ret own Ts) {a b : Int} {off : Int} {tgt : Nat} (hd : decode cc pc = .ok (.lcmp, 1)) (hd2 : decode cc (pc + 1) = .ok (.ifCond .le off, 3)) (ht : ((pc + 1 : Nat) : Int) + off = (tgt : Int)) (ha : -9223372036854775808 ≤ a ∧ a < 9223372036854775808) (hb : -9223372036854775808 ≤ b ∧ b < 9223372036854775808) (k1 : a ≤ b → X p l e R s m args below meth c D ad nL Q h tgt lv st) (k2 : ¬ (a ≤ b) → X p l e R s m args below meth c D ad nL Q h (pc + 1 + 3) lv st) : X p l e R s m args below meth c D ad nL Q h pc lv (vl b :: vl a :: st) :=
  x_lcmp C hd ha hb (x_if_le C hd2 ht (by split <;> first | omega | (split <;> omega)) (fun q => k1 (by split at q <;> first | omega | (split at q <;> omega))) (fun q => k2 (by split at q <;> first | omega | (split at q <;> omega))))
theorem x_lif_eq (C : Fx p s m args meth c D ad cc nL ret own Ts) {a b : Int} {off : Int} {tgt : Nat} (hd : decode cc pc = .ok (.lcmp, 1)) (hd2 : decode cc (pc + 1) = .ok (.ifCond .eq off, 3)) (ht : ((pc + 1 : Nat) : Int) + off = (tgt : Int)) (ha : -9223372036854775808 ≤ a ∧ a < 9223372036854775808) (hb : -9223372036854775808 ≤ b ∧ b < 9223372036854775808) (k1 : a = b → X p l e R s m args below meth c D ad nL Q h tgt lv st) (k2 : ¬ (a = b) → X p l e R s m args below meth c D ad nL Q h (pc + 1 + 3) lv st) : X p l e R s m args below meth c D ad nL Q h pc lv (vl b :: vl a :: st) :=
  x_lcmp C hd ha hb (x_if_eq C hd2 ht (by split <;> first | omega | (split <;> omega)) (fun q => k1 (by split at q <;> first | omega | (split at q <;> omega))) (fun q => k2 (by split at q <;> first | omega | (split at q <;> omega))))
theorem x_lif_ne (C : Fx p s m args meth c D ad cc nL ret own Ts) {a b : Int} {off : Int} {tgt : Nat} (hd : decode cc pc = .ok (.lcmp, 1)) (hd2 : decode cc (pc + 1) = .ok (.ifCond .ne off, 3)) (ht : ((pc + 1 : Nat) : Int) + off = (tgt : Int)) (ha : -9223372036854775808 ≤ a ∧ a < 9223372036854775808) (hb : -9223372036854775808 ≤ b ∧ b < 9223372036854775808) (k1 : a ≠ b → X p l e R s m args below meth c D ad nL Q h tgt lv st) (k2 : a = b → X p l e R s m args below meth c D ad nL Q h (pc + 1 + 3) lv st) : X p l e R s m args below meth c D ad nL Q h pc lv (vl b :: vl a :: st) :=
  x_lcmp C hd ha hb (x_if_ne C hd2 ht (by split <;> first | omega | (split <;> omega)) (fun q => k1 (by split at q <;> first | omega | (split at q <;> omega))) (fun q => k2 (by split at q <;> first | omega | (split at q <;> omega))))
theorem x_tableOut (C : Fx p s m args meth c D ad cc nL ret own Ts) {dflt lo hi : Int} {offs : Array Int} {len : Nat} {a : Int} {tgt : Nat} (hd : decode cc pc = .ok (.tableswitch dflt lo hi offs, len)) (ha : -2147483648 ≤ a ∧ a < 2147483648) (hq : a < lo ∨ hi < a) (ht : (pc : Int) + dflt = (tgt : Int)) (k : X p l e R s m args below meth c D ad nL Q h tgt lv st) : X p l e R s m args below meth c D ad nL Q h pc lv (vi a :: st) :=
  fun H locs ls hh hs hl => lv_tableOut C.1 C.2.1 hd (by rw [iI_t ha]; exact hq) ht (k H locs ls hh hs hl)
theorem x_tableIn (C : Fx p s m args meth c D ad cc nL ret own Ts) {dflt lo hi : Int} {offs : Array Int} {len : Nat} {a off : Int} {tgt : Nat} (hd : decode cc pc = .ok (.tableswitch dflt lo hi offs, len)) (ha : -2147483648 ≤ a ∧ a < 2147483648) (h1 : ¬ a < lo) (h2 : ¬ hi < a) (ho : offs[(a - lo).toNat]? = some off) (ht : (pc : Int) + off = (tgt : Int)) (k : X p l e R s m args below meth c D ad nL Q h tgt lv st) : X p l e R s m args below meth c D ad nL Q h pc lv (vi a :: st) :=
  fun H locs ls hh hs hl => lv_tableIn C.1 C.2.1 hd (by rw [iI_t ha]; exact h1) (by rw [iI_t ha]; exact h2) (by rw [iI_t ha]; exact ho) ht (k H locs ls hh hs hl)
theorem x_get (C : Fx p s m args meth c D ad cc nL ret own Ts) {Cn : String} {T : u_T} {N ci index n : Nat} {fs : List Value} {v : Value} (kf : Nat) (hd : decode cc pc = .ok (.getfield index, 3)) (hin : ∀ w ∈ u_ws Cn T N, w ∈ Ts) (hlink : Cond.fieldLink own index (T kf).1 (T kf).2.1 (T kf).2.2.1 ∈ Ts) (hc : vwCl[ci]? = some (Cn, T, N)) (hk : kf < N) (he : h n = some (.inr (ci, fs))) (hv : fs[kf]? = some v) (k : X p l e R s m args below meth c D ad nL Q h (pc + 3) lv (v :: st)) : X p l e R s m args below meth c D ad nL Q h pc lv (.ref (ad n) :: st) :=
  fun H locs ls hh hs hl => va_get (D := D) (cl := vwCl) (ws := [(ad n, .inr (ci, fs))]) C.1 C.2.1 C.2.2.2.2.1 hin C.2.2.2.1 C.2.2.2.2.2.2.2.1 (fun j q hq => by
    have hj : j = 0 := by have := (List.getElem?_eq_some_iff.mp hq).1; simp at this; exact this
    subst hj; cases hq; exact (hh n _ he).2) 0 rfl hc kf hk (C.2.2.2.2.1 _ hlink) (fun _ z => z) hv hd (k H locs ls hh hs hl)
theorem x_put (C : Fx p s m args meth c D ad cc nL ret own Ts) {Cn : String} {T : u_T} {N ci index n : Nat} {fs : List Value} {v : Value} {ty : FieldType} (kf : Nat) (hd : decode cc pc = .ok (.putfield index, 3)) (hin : ∀ w ∈ u_ws Cn T N, w ∈ Ts) (hlink : Cond.fieldLink own index (T kf).1 (T kf).2.1 (T kf).2.2.1 ∈ Ts) (hc : vwCl[ci]? = some (Cn, T, N)) (hk : kf < N) (ty0 : Nat → FieldType) (hty : ∀ k, k < N → parseFieldDescriptor (T k).2.2.1 = some (ty0 k)) (hnm : ∀ a, a < N → ∀ b, b < N → a ≠ b → (T a).2.1 ≠ (T b).2.1) (hfin : (T kf).2.2.2 = false) (hdt : parseFieldDescriptor (T kf).2.2.1 = some ty) (hn : narrow ty v = v) (hfit : fits ty v = true) (hlen : kf < fs.length) (he : h n = some (.inr (ci, fs))) (k : X p l e R s m args below meth c D ad nL Q (hset h n (.inr (ci, fs.set kf v))) (pc + 3) lv st) : X p l e R s m args below meth c D ad nL Q h pc lv (v :: .ref (ad n) :: st) := by
  intro H locs ls hh hs hl
  obtain ⟨hx, hb, -, hown, hts, -, -, hK, hi⟩ := C
  have hap := va_apart (own := own) hts hin ty0 hty hnm hK hc
  have hn0 := hh n _ he
  obtain ⟨r, h1, cell, q1, q2, q3, q4⟩ := hn0.2
  have hr : r = (Cn, T, N) := Option.some.inj (h1.symm.trans hc)
  subst hr
  obtain ⟨hS, hfc, kC, hkC, hkind⟩ := hK.1 ci _ hc
  obtain ⟨cf, kff, fi, f, hif, hsl⟩ := hS kf hk
  have hlay := hts _ (hin _ (u_in_lay hk))
  unfold u_lay at hlay
  rw [if_neg (by rw [hfin]; decide)] at hlay
  have hst := (u_facts hfc hkC (u_lays hts hin hk) hif).1
  have h6 := u_store hfc hkC hkind hlay hif hdt hn hfit
  refine W.putK hx hb (f := f) ⟨hown, hts _ hlink, ⟨_, _, _, hif⟩, hst⟩ (by rw [q2]; exact h6) q1 q3 (by rw [hsl]; exact k2_hasslot (q4 kf hk)) rfl rfl hd fun H' e1 e2 e3 => ?_
  rw [hsl] at e1 ⊢
  exact k H' _ ls (hh.set hi he ⟨_, hc, t_OB.to (V := updV (vp_V fs) kf v) ⟨_, e1, q2, q3, t_set q4 hap hk v⟩ (fun j _ => vp_updV_set hlen v j)⟩ e3) (hs.put e2 e3 ⟨n, hn0.1, rfl⟩) hl
theorem x_iald (C : Fx p s m args meth c D ad cc nL ret own Ts) {n N : Nat} {f : Nat → Int} {z : Int} (hd : decode cc pc = .ok (.iaload, 1)) (he : h n = some (.inl (D.1 10, N, .inl (fun j => iI (f j))))) (hz : 0 ≤ z ∧ z < N) (hN : N ≤ 2147483647) (k : X p l e R s m args below meth c D ad nL Q h (pc + 1) lv (vi (f z.toNat) :: st)) : X p l e R s m args below meth c D ad nL Q h pc lv (vi z :: .ref (ad n) :: st) :=
  fun H locs ls hh hs hl => va_iald (D := D) (cl := vwCl) (tys := tysL D) (ws := [(ad n, .inl (D.1 10, N, .inl (fun j => iI (f j))))]) C.1 C.2.1 C.2.2.2.2.2.2.2.1 (fun j q hq => by
    have hj : j = 0 := by have := (List.getElem?_eq_some_iff.mp hq).1; simp at this; exact this
    subst hj; cases hq; exact (hh n _ he).2) 0 0 rfl rfl (iI_in hz hN) hd (by rw [iI_cl ⟨hz.1, by omega⟩]; exact k H locs ls hh hs hl)
theorem x_lald (C : Fx p s m args meth c D ad cc nL ret own Ts) {n N : Nat} {f : Nat → Int} {z : Int} (hd : decode cc pc = .ok (.laload, 1)) (he : h n = some (.inl (D.1 11, N, .inr (.inl (fun j => lI (f j)))))) (hz : 0 ≤ z ∧ z < N) (hN : N ≤ 2147483647) (k : X p l e R s m args below meth c D ad nL Q h (pc + 1) lv (vl (f z.toNat) :: st)) : X p l e R s m args below meth c D ad nL Q h pc lv (vi z :: .ref (ad n) :: st) :=
  fun H locs ls hh hs hl => va_lald (D := D) (cl := vwCl) (tys := tysL D) (ws := [(ad n, .inl (D.1 11, N, .inr (.inl (fun j => lI (f j)))))]) C.1 C.2.1 C.2.2.2.2.2.2.2.1 (fun j q hq => by
    have hj : j = 0 := by have := (List.getElem?_eq_some_iff.mp hq).1; simp at this; exact this
    subst hj; cases hq; exact (hh n _ he).2) 0 1 rfl rfl (iI_in hz hN) hd (by rw [iI_cl ⟨hz.1, by omega⟩]; exact k H locs ls hh hs hl)
theorem x_zald (C : Fx p s m args meth c D ad cc nL ret own Ts) {n N : Nat} {f : Nat → Int} {z : Int} (hd : decode cc pc = .ok (.baload, 1)) (he : h n = some (.inl (D.1 12, N, .inl (fun j => iI (f j))))) (hz : 0 ≤ z ∧ z < N) (hN : N ≤ 2147483647) (k : X p l e R s m args below meth c D ad nL Q h (pc + 1) lv (vi (f z.toNat) :: st)) : X p l e R s m args below meth c D ad nL Q h pc lv (vi z :: .ref (ad n) :: st) :=
  fun H locs ls hh hs hl => va_zald (D := D) (cl := vwCl) (tys := tysL D) (ws := [(ad n, .inl (D.1 12, N, .inl (fun j => iI (f j))))]) C.1 C.2.1 C.2.2.2.2.2.2.2.1 (fun j q hq => by
    have hj : j = 0 := by have := (List.getElem?_eq_some_iff.mp hq).1; simp at this; exact this
    subst hj; cases hq; exact (hh n _ he).2) 0 2 rfl rfl (iI_in hz hN) hd (by rw [iI_cl ⟨hz.1, by omega⟩]; exact k H locs ls hh hs hl)
theorem x_aald (C : Fx p s m args meth c D ad cc nL ret own Ts) (ti : Nat) {n N : Nat} {Cn : String} {f : Nat → Option Nat} {z : Int} {b : Nat} (hd : decode cc pc = .ok (.aaload, 1)) (he : h n = some (.inl (D.1 (10 + ti), N, .inr (.inr (.inr (.inr f)))))) (ht : (tysL D)[ti]? = some (D.1 (10 + ti), .object Cn)) (hz : 0 ≤ z ∧ z < N) (hN : N ≤ 2147483647) (hb : f z.toNat = some b) (k : X p l e R s m args below meth c D ad nL Q h (pc + 1) lv (.ref b :: st)) : X p l e R s m args below meth c D ad nL Q h pc lv (vi z :: .ref (ad n) :: st) :=
  fun H locs ls hh hs hl => va_aldq (D := D) (cl := vwCl) (tys := tysL D) (ws := [(ad n, .inl (D.1 (10 + ti), N, .inr (.inr (.inr (.inr f)))))]) C.1 C.2.1 C.2.2.2.2.2.2.2.1 (fun j q hq => by
    have hj : j = 0 := by have := (List.getElem?_eq_some_iff.mp hq).1; simp at this; exact this
    subst hj; cases hq; exact (hh n _ he).2) 0 ti rfl ht (iI_in hz hN) hd (by rw [iI_cl ⟨hz.1, by omega⟩, hb]; exact k H locs ls hh hs hl)
theorem x_alen (C : Fx p s m args meth c D ad cc nL ret own Ts) (ti : Nat) {n N : Nat} {ty : FieldType} {x : (Nat → Int32) ⊕ (Nat → Int64) ⊕ (Nat → UInt32) ⊕ (Nat → UInt64) ⊕ (Nat → Option Nat)} (hd : decode cc pc = .ok (.arraylength, 1)) (he : h n = some (.inl (D.1 (10 + ti), N, x))) (ht : (tysL D)[ti]? = some (D.1 (10 + ti), ty)) (k : X p l e R s m args below meth c D ad nL Q h (pc + 1) lv (vi (N : Int) :: st)) : X p l e R s m args below meth c D ad nL Q h pc lv (.ref (ad n) :: st) :=
  fun H locs ls hh hs hl => va_alen (D := D) (cl := vwCl) (tys := tysL D) (ws := [(ad n, .inl (D.1 (10 + ti), N, x))]) C.1 C.2.1 C.2.2.2.2.2.2.2.1 (fun j q hq => by
    have hj : j = 0 := by have := (List.getElem?_eq_some_iff.mp hq).1; simp at this; exact this
    subst hj; cases hq; exact (hh n _ he).2) 0 ti rfl ht (Int32.ofInt_eq_ofNat).symm hd (k H locs ls hh hs hl)
def zup (f : Nat → Int) (k : Nat) (x : Int) : Nat → Int := fun j => if j = k then x else f j
theorem zup_s (f : Nat → Int) (k : Nat) (x : Int) : zup f k x k = x := by simp [zup]
theorem zup_n {f : Nat → Int} {k j : Nat} {x : Int} (hj : j ≠ k) : zup f k x j = f j := by simp [zup, hj]
theorem x_iast (C : Fx p s m args meth c D ad cc nL ret own Ts) {n N : Nat} {f : Nat → Int} {z w : Int} (hd : decode cc pc = .ok (.iastore, 1)) (he : h n = some (.inl (D.1 10, N, .inl (fun j => iI (f j))))) (hz : 0 ≤ z ∧ z < N) (hN : N ≤ 2147483647) (k : X p l e R s m args below meth c D ad nL Q (hset h n (.inl (D.1 10, N, .inl (fun j => iI (zup f z.toNat w j))))) (pc + 1) lv st) : X p l e R s m args below meth c D ad nL Q h pc lv (vi w :: vi z :: .ref (ad n) :: st) := by
  intro H locs ls hh hs hl
  have hn0 := hh n _ he
  have hin : vp_in (iI z) N := iI_in hz hN
  have hc : H[ad n]? = some (vp_cell (D.1 10) (N, .inl (fun j => iI (f j)))) := hn0.2
  refine W.iast C.1 C.2.1 hc ((C.2.2.2.2.2.2.2.1.2 0 (D.1 10, .int) rfl).1 N (fun j => .int (iI (f j)))) (fun q => by cases q) (by show ¬ (iI z < 0 ∨ (arrV _ _ _).slots.size ≤ _); rw [arrV_size]; exact hin) rfl rfl hd fun H1 e1 z1 oq => ?_
  refine k H1 _ ls (hh.set C.2.2.2.2.2.2.2.2 he ?_ oq) (hs.put z1 oq ⟨n, hn0.1, rfl⟩) hl
  show H1[ad n]? = some (vp_cell _ _)
  rw [e1, vp_cell_i, vp_cell_i, arrV_store, iI_cl ⟨hz.1, by omega⟩]
  congr 2
  funext q
  by_cases hq : q = z.toNat
  · subst hq; simp [updV, zup]
  · simp [updV, zup, hq]
theorem x_last (C : Fx p s m args meth c D ad cc nL ret own Ts) {n N : Nat} {f : Nat → Int} {z w : Int} (hd : decode cc pc = .ok (.lastore, 1)) (he : h n = some (.inl (D.1 11, N, .inr (.inl (fun j => lI (f j)))))) (hz : 0 ≤ z ∧ z < N) (hN : N ≤ 2147483647) (k : X p l e R s m args below meth c D ad nL Q (hset h n (.inl (D.1 11, N, .inr (.inl (fun j => lI (zup f z.toNat w j)))))) (pc + 1) lv st) : X p l e R s m args below meth c D ad nL Q h pc lv (vl w :: vi z :: .ref (ad n) :: st) := by
  intro H locs ls hh hs hl
  have hn0 := hh n _ he
  have hin : vp_in (iI z) N := iI_in hz hN
  have hc : H[ad n]? = some (vp_cell (D.1 11) (N, .inr (.inl (fun j => lI (f j))))) := hn0.2
  refine W.last C.1 C.2.1 hc ((C.2.2.2.2.2.2.2.1.2 1 (D.1 11, .long) rfl).1 N (fun j => .long (lI (f j)))) (fun q => by cases q) (by show ¬ (iI z < 0 ∨ (arrV _ _ _).slots.size ≤ _); rw [arrV_size]; exact hin) rfl rfl hd fun H1 e1 z1 oq => ?_
  refine k H1 _ ls (hh.set C.2.2.2.2.2.2.2.2 he ?_ oq) (hs.put z1 oq ⟨n, hn0.1, rfl⟩) hl
  show H1[ad n]? = some (vp_cell _ _)
  rw [e1, vp_cell_l, vp_cell_l, arrV_store, iI_cl ⟨hz.1, by omega⟩]
  congr 2
  funext q
  by_cases hq : q = z.toNat
  · subst hq; simp [updV, zup]
  · simp [updV, zup, hq]
theorem x_iret (C : Fx p s m args meth c D ad cc nL (some .int) own Ts) {post : Option Value → HM → Prop} {z : Int} (hd : decode cc pc = .ok (.ireturn, 1)) (hp : post (some (vi z)) h) : X p l e R s m args below meth c D ad nL (MQ below (Qx D ad post) args s 0 0 (aA ad)) h pc lv [vi z] :=
  fun H locs ls hh hs hl => W.iret C.1 C.2.1 C.2.2.2.2.2.1 (fun t ht hW => ⟨⟨_, h, rfl, hp, by rw [ht]; exact hh, va_K.moved hW.alike C.2.2.2.2.2.2.2.1, C.2.2.2.2.2.2.2.2⟩, hs.F ht⟩) hs.2.2 hd C.2.2.2.2.2.2.1
theorem x_zret (C : Fx p s m args meth c D ad cc nL (some .boolean) own Ts) {post : Option Value → HM → Prop} {z : Int} (hd : decode cc pc = .ok (.ireturn, 1)) (hz : z = 0 ∨ z = 1) (hp : post (some (vi z)) h) : X p l e R s m args below meth c D ad nL (MQ below (Qx D ad post) args s 0 0 (aA ad)) h pc lv [vi z] :=
  fun H locs ls hh hs hl => W.zret C.1 C.2.1 C.2.2.2.2.2.1 (by rcases hz with rfl | rfl <;> decide) (fun t ht hW => ⟨⟨_, h, rfl, hp, by rw [ht]; exact hh, va_K.moved hW.alike C.2.2.2.2.2.2.2.1, C.2.2.2.2.2.2.2.2⟩, hs.F ht⟩) hs.2.2 hd C.2.2.2.2.2.2.1
theorem x_lret (C : Fx p s m args meth c D ad cc nL (some .long) own Ts) {post : Option Value → HM → Prop} {z : Int} (hd : decode cc pc = .ok (.lreturn, 1)) (hp : post (some (vl z)) h) : X p l e R s m args below meth c D ad nL (MQ below (Qx D ad post) args s 0 0 (aA ad)) h pc lv [vl z] :=
  fun H locs ls hh hs hl => W.lret C.1 C.2.1 C.2.2.2.2.2.1 (fun t ht hW => ⟨⟨_, h, rfl, hp, by rw [ht]; exact hh, va_K.moved hW.alike C.2.2.2.2.2.2.2.1, C.2.2.2.2.2.2.2.2⟩, hs.F ht⟩) hs.2.2 hd C.2.2.2.2.2.2.1
theorem x_vret (C : Fx p s m args meth c D ad cc nL none own Ts) {post : Option Value → HM → Prop} (hd : decode cc pc = .ok (.return_, 1)) (hp : post none h) : X p l e R s m args below meth c D ad nL (MQ below (Qx D ad post) args s 0 0 (aA ad)) h pc lv [] :=
  fun H locs ls hh hs hl => W.vret C.1 C.2.1 C.2.2.2.2.2.1 (fun t ht hW => ⟨⟨_, h, rfl, hp, by rw [ht]; exact hh, va_K.moved hW.alike C.2.2.2.2.2.2.2.1, C.2.2.2.2.2.2.2.2⟩, hs.F ht⟩) hs.2.2 hd C.2.2.2.2.2.2.1
theorem X.eqh {h' : HM} (he : h = h') (k : X p l e R s m args below meth c D ad nL Q h' pc lv st) : X p l e R s m args below meth c D ad nL Q h pc lv st := he ▸ k
theorem X.sub {lv' : List (Nat × Value)} (is : List Nat) (he : lv_pick lv is = lv') (k : X p l e R s m args below meth c D ad nL Q h pc lv' st) : X p l e R s m args below meth c D ad nL Q h pc lv st := fun H locs ls hh hs hl => k H locs ls hh hs (lv_sub hl is he)
end WK
theorem ct_of {l : Launch} {y : MethodName} {ws : List Cond} {fr lo : Nat} {D : va_G} {ad : Nat → Nat} {av : List Value} {h : HM} {post : Option Value → HM → Prop} {cc : ByteArray} {maxL : Nat} {ret : Option FieldType} (hy : plainName y.cls = true) (hw : ws = Cond.code y cc maxL ret :: tb) (hlen : (lg_sl av).length ≤ maxL)
    (body : ∀ p e s m below meth c, Fx p s m av.toArray meth c D ad cc maxL ret y.cls tb → X p l e { frames := fr, cells := 0, slots := 0, locals := lo } s m av.toArray below meth c D ad maxL (MQ below (Qx D ad post) av.toArray s 0 0 (aA ad)) h 0 (lv_args 0 av) []) : Ct l y ws fr lo D ad av h post := by
  refine Met.ofW (cc := cc) (maxL := maxL) (ret := ret) hy hw ?_
  intro p e s m args below meth c s₁ B hml hv
  obtain ⟨rfl, hh, hK, hi⟩ := hv
  have C : Fx p s m av.toArray meth c D ad cc maxL ret y.cls tb := ⟨B.exec, B.bytes, hml, findClass_of_methodNamed B.named, fun w hw' => atoms_spec (ws := ws) B.pre w (by rw [hw]; exact List.mem_cons_of_mem _ hw'), B.returns, B.notSynchronized, hK, hi⟩
  have hl := lv_entry av (n := maxL) hlen
  rw [lg_entry_eq]
  exact body p e s m below meth c C s.heap [] _ hh va_S.rf hl
theorem WO.blind {D : va_G} {ad : Nat → Nat} {h : HM} {av : List Value} : FrameBlind (va_Pc av (WO D ad h)) := fun a U g mk q => ⟨q.1, q.2.1, va_K.moved (u := U) (U := U.calling g mk a) (Vm.Alike.refl U.vm) q.2.2.1, q.2.2.2⟩
theorem aA_any {ad : Nat → Nat} (q : Nat) (h : aA ad q) : aA ad q := h
section WC
variable {p : Program} {l : Launch} {e : Env} {R : Room} {s : State} {m : MethodId} {args : Array Value} {below : List Frame} {meth : Method} {c : Code} {D : va_G} {ad : Nat → Nat} {cc : ByteArray} {nL : Nat} {ret : Option FieldType} {own : String} {Ts : List Cond} {Q : State → Prop} {h : HM} {pc : Nat} {lv : List (Nat × Value)} {st : List Value} {y : MethodName} {ws : List Cond} {fr lo : Nat} {post : Option Value → HM → Prop} {As : List Value} {st0 : List Value} {av : List Value}
theorem x_run {ls : Array Slot} {H : Heap} {locs : List Loc} (hK : va_K D vwCl (tysL D) s) (hs : va_S (aA ad) s.heap H locs) (hl : lv_has ls nL lv) {a : Array Value} (hr : va_Run p l e R s m args below meth c H locs 0 0 0 0 (F0 m pc ls st0) st (Qx D ad post a) (aA ad)) (k : ∀ (v : Option Value) (h1 : HM), post v h1 → X p l e R s m args below meth c D ad nL Q h1 (pc + 3) lv (v.toList ++ st)) : W p l e R s m args below meth c H locs 0 0 Q (F0 m pc ls st0) := by
  intro T hT Xx
  obtain ⟨v, st₀, t, T', L, h0, X', hL, e1, e2, ⟨⟨v', h1, hv, hp, hwo⟩, hz, hk⟩, stp⟩ := hr T hT Xx
  cases hv
  rw [h0] at hz hk
  obtain ⟨t2, a1, b1⟩ := k v h1 hp T'.heap (locs ++ L) ls (by rw [e1]; exact hwo.1) ⟨Nat.le_trans hs.1 (by rw [e1]; exact hz), fun q g1 g2 => by rw [e1, hk q (Nat.lt_of_lt_of_le g1 hs.1) g2]; exact hs.2.1 q g1 g2, fun q hq => by
      rcases List.mem_append.mp hq with g | g
      · exact hs.2.2 q g
      · exact hL q g⟩ hl T' rfl X'
  exact ⟨t2, stp t2 a1, b1⟩
theorem WO.at (C : Fx p s m args meth c D ad cc nL ret own Ts) {H : Heap} (hh : hw D ad h H) : ∀ U : State, U.heap = H → s.WarmedH U.vm → WO D ad h U := fun U hU hW => ⟨by rw [hU]; exact hh, va_K.moved hW.alike C.2.2.2.2.2.2.2.1, C.2.2.2.2.2.2.2.2⟩
/-- invokevirtual of a method of the world's object n -/
theorem x_callV (C : Fx p s m args meth c D ad cc nL ret own Ts) {index n ci nn : Nat} {r : vw_C} {fs : List Value} {bytes : ByteArray} {maxL : Nat} {rt : Option FieldType} {ws' : List Cond} (hc : Ct l y ws fr lo D ad (.ref (ad n) :: As) h post) (hG : GoodIn Ts (wsV own index y.cls y ws)) (hw : ws = Cond.code y bytes maxL rt :: ws') (hd2 : y.cls ≠ "java/lang/invoke/MethodHandle" ∧ y.cls ≠ "java/lang/invoke/VarHandle" ∧ (parseMethodDescriptor y.desc).map (fun d => d.parameters.length) = some nn) (hR : fr + 1 ≤ R.frames ∧ 8 + (maxL + 11) + lo ≤ R.locals)
    (hcl : vwCl[ci]? = some r) (hr1 : r.1 = y.cls) (he : h n = some (.inr (ci, fs))) (hn : As.length = nn) (hst : st0 = As.reverse ++ .ref (ad n) :: st) (hW : (st.map fun v => v.category).sum ≤ 8) (hd : decode cc pc = .ok (.invokevirtual index, 3))
    (k : ∀ (v : Option Value) (h1 : HM), post v h1 → X p l e R s m args below meth c D ad nL Q h1 (pc + 3) lv (v.toList ++ st)) : X p l e R s m args below meth c D ad nL Q h pc lv st0 := by
  intro H locs ls hh hs hl
  subst hst
  have hrv := va_recv (D := D) (cl := vwCl) (ws := [(ad n, .inr (ci, fs))]) C.2.2.2.2.2.2.2.1 (fun j q hq => by
    have hj : j = 0 := by have := (List.getElem?_eq_some_iff.mp hq).1; simp at this; exact this
    subst hj; cases hq; exact (hh n _ he).2) hcl (q0 := 0) rfl
  rw [hr1] at hrv
  exact x_run C.2.2.2.2.2.2.2.1 hs hl (va_runV (As := As) (rest := st) ⟨C.1, C.2.1, C.2.2.1, C.2.2.2.1, C.2.2.2.2.1⟩ hc (cwV nn C.2.2.2.2.1 hG hw rfl rfl ⟨rfl, hd2⟩ hR) ⟨WO.blind, hrv, fun U hU hWm => ⟨rfl, WO.at C hh U hU hWm⟩⟩ rfl hn hl.1 rfl (by show 2 * 0 + _ ≤ 8; omega) hd ⟨by omega, by omega⟩) k
theorem x_callS (C : Fx p s m args meth c D ad cc nL ret own Ts) {index nn : Nat} {bytes : ByteArray} {maxL : Nat} {rt : Option FieldType} {ws' : List Cond} (hc : Ct l y ws fr lo D ad As h post) (hG : GoodIn Ts (va_wsS own index y ws)) (hw : ws = Cond.code y bytes maxL rt :: ws') (hd2 : y.cls ≠ "java/lang/invoke/MethodHandle" ∧ y.cls ≠ "java/lang/invoke/VarHandle" ∧ (parseMethodDescriptor y.desc).map (fun d => d.parameters.length) = some nn) (hR : fr + 1 ≤ R.frames ∧ 8 + (maxL + 11) + lo ≤ R.locals)
    (hn : As.length = nn) (hst : st0 = As.reverse ++ st) (hW : (st.map fun v => v.category).sum ≤ 8) (hd : decode cc pc = .ok (.invokestatic index, 3))
    (k : ∀ (v : Option Value) (h1 : HM), post v h1 → X p l e R s m args below meth c D ad nL Q h1 (pc + 3) lv (v.toList ++ st)) : X p l e R s m args below meth c D ad nL Q h pc lv st0 := by
  intro H locs ls hh hs hl
  subst hst
  exact x_run C.2.2.2.2.2.2.2.1 hs hl (va_runS (As := As) (rest := st) ⟨C.1, C.2.1, C.2.2.1, C.2.2.2.1, C.2.2.2.2.1⟩ hc (va_cwS nn C.2.2.2.2.1 hG hw rfl rfl hd2 hR) ⟨WO.blind, fun U hU hWm => ⟨rfl, WO.at C hh U hU hWm⟩⟩ rfl hn hl.1 rfl (by show 2 * 0 + _ ≤ 8; omega) hd ⟨by omega, by omega⟩) k
end WC
