/-! WHAT MAKES CELLS. Y: as X, with the heap's size and the count of cells made; a new cell lies at the heap's end. -/
def aB (ad : Nat → Nat) (sz : Nat) : Nat → Prop := fun q => aA ad q ∨ sz ≤ q
def Y (p : Program) (l : Launch) (e : Env) (R : Room) (s : State) (m : MethodId) (args : Array Value) (below : List Frame) (meth : Method) (c : Code) (D : va_G) (ad : Nat → Nat) (nL cn sl : Nat) (Q : State → Prop) (h : HM) (pc : Nat) (lv : List (Nat × Value)) (st : List Value) : Prop :=
  ∀ (H : Heap) (locs : List Loc) (ls : Array Slot), H.size = s.heap.size + cn → hw D ad h H → va_S (aB ad s.heap.size) s.heap H locs → lv_has ls nL lv → W p l e R s m args below meth c H locs cn sl Q (F0 m pc ls st)
def fr1 (a sz : Nat) : Nat → Prop := fun q => q = a ∨ sz ≤ q
/-- what a constructor leaves: its object at a, its new cells from sz on -/
def Qn (D : va_G) (a sz mc : Nat) (post : (Nat → va_E) → Prop) : Array Value → State → Outcome → State → Prop := fun _ st oc t => (oc = .returned none ∧ t.heap.size = sz + mc ∧ va_K D vwCl (tysL D) t ∧ ∃ cs : Nat → va_E, post cs ∧ va_at D vwCl (a, cs 0) t.heap ∧ ∀ i, i < mc → va_at D vwCl (sz + i, cs (i + 1)) t.heap) ∧ va_F (fr1 a sz) st t
def Cn (l : Launch) (y : MethodName) (ws : List Cond) (fr lo mc ms : Nat) (D : va_G) (av : List Value) (a sz : Nat) (x0 : va_E) (P : State → Prop) (post : (Nat → va_E) → Prop) : Prop :=
  Met l y ws { frames := fr, cells := mc, slots := ms, locals := lo } (va_Pc av (fun U => U.heap.size = sz ∧ va_at D vwCl (a, x0) U.heap ∧ va_K D vwCl (tysL D) U ∧ P U)) (Qn D a sz mc post) mc ms (fr1 a sz)
def hone (k : Nat) (x : va_E) : HM := fun q => if q = k then some x else none
/-- what a constructor's own naming of addresses must keep -/
def adK (ad : Nat → Nat) (k a sz : Nat) : Prop := inj ad ∧ k < 64 ∧ ad k = a ∧ ∀ n, n < 64 → ad n = a ∨ sz ≤ ad n
theorem cn_of {l : Launch} {y : MethodName} {ws : List Cond} {fr lo mc ms : Nat} {D : va_G} {av : List Value} {a sz : Nat} {x0 : va_E} {P : State → Prop} {post : (Nat → va_E) → Prop} {cc : ByteArray} {maxL : Nat} (hy : plainName y.cls = true) (hyi : y.name = "<init>") (hw0 : ws = Cond.code y cc maxL none :: tb) (hlen : (lg_sl av).length ≤ maxL) {ad : Nat → Nat} {k : Nat} (hk : adK ad k a sz)
    (body : ∀ p e s m below meth c, s.heap.size = sz → P s → Fx p s m av.toArray meth c D ad cc maxL none y.cls tb → meth.name = "<init>" → Y p l e { frames := fr, cells := mc, slots := ms, locals := lo } s m av.toArray below meth c D ad maxL 0 0 (MQ below (Qn D a sz mc post) av.toArray s mc ms (fr1 a sz)) (hone k x0) 0 (lv_args 0 av) []) : Cn l y ws fr lo mc ms D av a sz x0 P post := by
  refine Met.ofW (cc := cc) (maxL := maxL) (ret := none) hy hw0 ?_
  intro p e s m args below meth c s₁ B hml hv
  obtain ⟨rfl, hsz, hx, hK, hP⟩ := hv
  have C : Fx p s m av.toArray meth c D ad cc maxL none y.cls tb := ⟨B.exec, B.bytes, hml, findClass_of_methodNamed B.named, fun w hw' => atoms_spec (ws := ws) B.pre w (by rw [hw0]; exact List.mem_cons_of_mem _ hw'), B.returns, B.notSynchronized, hK, hk.1⟩
  have hl := lv_entry av (n := maxL) hlen
  rw [lg_entry_eq]
  have hn : meth.name = "<init>" := (name_of_methodNamed B.named B.method).1.trans hyi
  refine body p e s m below meth c hsz hP C hn s.heap [] _ rfl ?_ va_S.rf hl
  intro n x h
  unfold hone at h
  by_cases c : n = k
  · rw [if_pos c] at h
    cases h
    rw [c, hk.2.2.1]
    exact ⟨hk.2.1, hx⟩
  · rw [if_neg c] at h; cases h
section YK
variable {p : Program} {l : Launch} {e : Env} {R : Room} {s : State} {m : MethodId} {args : Array Value} {below : List Frame} {meth : Method} {c : Code} {D : va_G} {ad : Nat → Nat} {cc : ByteArray} {nL cn sl : Nat} {ret : Option FieldType} {own : String} {Ts : List Cond} {Q : State → Prop} {h : HM} {pc : Nat} {lv : List (Nat × Value)} {st : List Value}
theorem y_iconst (C : Fx p s m args meth c D ad cc nL ret own Ts) {n : Int} (hd : decode cc pc = .ok (.iconst n, 1))  (k : Y p l e R s m args below meth c D ad nL cn sl Q h (pc + 1) lv (vi n :: st)) : Y p l e R s m args below meth c D ad nL cn sl Q h pc lv st :=
  fun H locs ls hz0 hh hs hl => lv_iconst C.1 C.2.1 hd rfl (k H locs ls hz0 hh hs hl)
theorem y_bipush (C : Fx p s m args meth c D ad cc nL ret own Ts) {n : Int} {z : Int} (hd : decode cc pc = .ok (.bipush n, 2)) (hz : (Int8.ofInt n).toInt32 = iI z) (k : Y p l e R s m args below meth c D ad nL cn sl Q h (pc + 2) lv (vi z :: st)) : Y p l e R s m args below meth c D ad nL cn sl Q h pc lv st :=
  fun H locs ls hz0 hh hs hl => lv_bipush C.1 C.2.1 hd hz (k H locs ls hz0 hh hs hl)
theorem y_sipush (C : Fx p s m args meth c D ad cc nL ret own Ts) {n : Int} {z : Int} (hd : decode cc pc = .ok (.sipush n, 3)) (hz : (Int16.ofInt n).toInt32 = iI z) (k : Y p l e R s m args below meth c D ad nL cn sl Q h (pc + 3) lv (vi z :: st)) : Y p l e R s m args below meth c D ad nL cn sl Q h pc lv st :=
  fun H locs ls hz0 hh hs hl => lv_sipush C.1 C.2.1 hd hz (k H locs ls hz0 hh hs hl)
theorem y_iload_n (C : Fx p s m args meth c D ad cc nL ret own Ts) {k0 : Fin 4} {i : Nat} {x : Int32} (hd : decode cc pc = .ok (.iload_n k0, 1)) (hi : (k0 : Nat) = i) (hx : lk i lv = some (.int x)) (k : Y p l e R s m args below meth c D ad nL cn sl Q h (pc + 1) lv (.int x :: st)) : Y p l e R s m args below meth c D ad nL cn sl Q h pc lv st :=
  fun H locs ls hz0 hh hs hl => lv_iload_n C.1 C.2.1 hd hi (lk_at hl hx) (k H locs ls hz0 hh hs hl)
theorem y_iload (C : Fx p s m args meth c D ad cc nL ret own Ts) {i : Nat} {x : Int32} (hd : decode cc pc = .ok (.iload i, 2)) (hx : lk i lv = some (.int x)) (k : Y p l e R s m args below meth c D ad nL cn sl Q h (pc + 2) lv (.int x :: st)) : Y p l e R s m args below meth c D ad nL cn sl Q h pc lv st :=
  fun H locs ls hz0 hh hs hl => lv_iload C.1 C.2.1 hd (lk_at hl hx) (k H locs ls hz0 hh hs hl)
theorem y_istore_n (C : Fx p s m args meth c D ad cc nL ret own Ts) {k0 : Fin 4} {i : Nat} {x : Int32} {lv' : List (Nat × Value)} (hd : decode cc pc = .ok (.istore_n k0, 1)) (hi : (k0 : Nat) = i) (hn : i < nL) (hx : (i, Value.int x) :: lv.filter (fun q => !(q.1 == i) && !(q.1 + 1 == i && q.2.category == 2)) = lv') (k : Y p l e R s m args below meth c D ad nL cn sl Q h (pc + 1) lv' st) : Y p l e R s m args below meth c D ad nL cn sl Q h pc lv (.int x :: st) :=
  fun H locs ls hz0 hh hs hl => lv_istore_n C.1 C.2.1 hd hi hl hn hx (fun ls hl => k H locs ls hz0 hh hs hl)
theorem y_istore (C : Fx p s m args meth c D ad cc nL ret own Ts) {i : Nat} {x : Int32} {lv' : List (Nat × Value)} (hd : decode cc pc = .ok (.istore i, 2)) (hn : i < nL) (hx : (i, Value.int x) :: lv.filter (fun q => !(q.1 == i) && !(q.1 + 1 == i && q.2.category == 2)) = lv') (k : Y p l e R s m args below meth c D ad nL cn sl Q h (pc + 2) lv' st) : Y p l e R s m args below meth c D ad nL cn sl Q h pc lv (.int x :: st) :=
  fun H locs ls hz0 hh hs hl => lv_istore C.1 C.2.1 hd hl hn hx (fun ls hl => k H locs ls hz0 hh hs hl)
theorem y_aload_n (C : Fx p s m args meth c D ad cc nL ret own Ts) {k0 : Fin 4} {i : Nat} {x : Nat} (hd : decode cc pc = .ok (.aload_n k0, 1)) (hi : (k0 : Nat) = i) (hx : lk i lv = some (.ref x)) (k : Y p l e R s m args below meth c D ad nL cn sl Q h (pc + 1) lv (.ref x :: st)) : Y p l e R s m args below meth c D ad nL cn sl Q h pc lv st :=
  fun H locs ls hz0 hh hs hl => lv_aload_n C.1 C.2.1 hd hi (lk_at hl hx) (k H locs ls hz0 hh hs hl)
theorem y_aload (C : Fx p s m args meth c D ad cc nL ret own Ts) {i : Nat} {x : Nat} (hd : decode cc pc = .ok (.aload i, 2)) (hx : lk i lv = some (.ref x)) (k : Y p l e R s m args below meth c D ad nL cn sl Q h (pc + 2) lv (.ref x :: st)) : Y p l e R s m args below meth c D ad nL cn sl Q h pc lv st :=
  fun H locs ls hz0 hh hs hl => lv_aload C.1 C.2.1 hd (lk_at hl hx) (k H locs ls hz0 hh hs hl)
theorem y_astore_n (C : Fx p s m args meth c D ad cc nL ret own Ts) {k0 : Fin 4} {i : Nat} {x : Nat} {lv' : List (Nat × Value)} (hd : decode cc pc = .ok (.astore_n k0, 1)) (hi : (k0 : Nat) = i) (hn : i < nL) (hx : (i, Value.ref x) :: lv.filter (fun q => !(q.1 == i) && !(q.1 + 1 == i && q.2.category == 2)) = lv') (k : Y p l e R s m args below meth c D ad nL cn sl Q h (pc + 1) lv' st) : Y p l e R s m args below meth c D ad nL cn sl Q h pc lv (.ref x :: st) :=
  fun H locs ls hz0 hh hs hl => lv_astore_n C.1 C.2.1 hd hi hl hn hx (fun ls hl => k H locs ls hz0 hh hs hl)
theorem y_iinc (C : Fx p s m args meth c D ad cc nL ret own Ts) {i : Nat} {n z : Int} {lv' : List (Nat × Value)} (hd : decode cc pc = .ok (.iinc i n, 3)) (hz : lk i lv = some (vi z)) (hn : i < nL) (hx : (i, vi (z + n)) :: lv.filter (fun q => !(q.1 == i) && !(q.1 + 1 == i && q.2.category == 2)) = lv') (k : Y p l e R s m args below meth c D ad nL cn sl Q h (pc + 3) lv' st) : Y p l e R s m args below meth c D ad nL cn sl Q h pc lv st := by
  intro H locs ls hz0 hh hs hl
  obtain ⟨kk, hk⟩ := lk_ix hz
  exact lv_iinc C.1 C.2.1 hd hl hk (iI_add z n) hn hx (fun ls hl => k H locs ls hz0 hh hs hl)
theorem y_iadd (C : Fx p s m args meth c D ad cc nL ret own Ts) {a b : Int} (hd : decode cc pc = .ok (.iadd, 1)) (k : Y p l e R s m args below meth c D ad nL cn sl Q h (pc + 1) lv (vi (a + b) :: st)) : Y p l e R s m args below meth c D ad nL cn sl Q h pc lv (vi b :: vi a :: st) :=
  fun H locs ls hz0 hh hs hl => lv_iadd C.1 C.2.1 hd (by rw [iI_add]; exact k H locs ls hz0 hh hs hl)
theorem y_isub (C : Fx p s m args meth c D ad cc nL ret own Ts) {a b : Int} (hd : decode cc pc = .ok (.isub, 1)) (k : Y p l e R s m args below meth c D ad nL cn sl Q h (pc + 1) lv (vi (a - b) :: st)) : Y p l e R s m args below meth c D ad nL cn sl Q h pc lv (vi b :: vi a :: st) :=
  fun H locs ls hz0 hh hs hl => lv_isub C.1 C.2.1 hd (by rw [iI_sub]; exact k H locs ls hz0 hh hs hl)
theorem y_iand (C : Fx p s m args meth c D ad cc nL ret own Ts) {x y : Int32} {z : Int} (hd : decode cc pc = .ok (.iand, 1)) (hz : x &&& y = iI z) (k : Y p l e R s m args below meth c D ad nL cn sl Q h (pc + 1) lv (vi z :: st)) : Y p l e R s m args below meth c D ad nL cn sl Q h pc lv (.int y :: .int x :: st) :=
  fun H locs ls hz0 hh hs hl => lv_iand C.1 C.2.1 hd (by rw [hz]; exact k H locs ls hz0 hh hs hl)
theorem y_ishl (C : Fx p s m args meth c D ad cc nL ret own Ts) {a n : Int} (hd : decode cc pc = .ok (.ishl, 1)) (hn : 0 ≤ n ∧ n < 32) (k : Y p l e R s m args below meth c D ad nL cn sl Q h (pc + 1) lv (vi (a * 2 ^ n.toNat) :: st)) : Y p l e R s m args below meth c D ad nL cn sl Q h pc lv (vi n :: vi a :: st) :=
  fun H locs ls hz0 hh hs hl => lv_ishl C.1 C.2.1 hd (by rw [show n = ((n.toNat : Nat) : Int) by omega, iI_shl a n.toNat (by omega)]; exact k H locs ls hz0 hh hs hl)
theorem y_dup (C : Fx p s m args meth c D ad cc nL ret own Ts) {va : Value} (hd : decode cc pc = .ok (.dup, 1)) (hv : va.category = 1) (k : Y p l e R s m args below meth c D ad nL cn sl Q h (pc + 1) lv (va :: va :: st)) : Y p l e R s m args below meth c D ad nL cn sl Q h pc lv (va :: st) :=
  fun H locs ls hz0 hh hs hl => lv_dup C.1 C.2.1 hd hv (k H locs ls hz0 hh hs hl)
theorem y_icmp_ge (C : Fx p s m args meth c D ad cc nL ret own Ts) {a b : Int} {off : Int} {tgt : Nat} (hd : decode cc pc = .ok (.if_icmp .ge off, 3)) (ht : (pc : Int) + off = (tgt : Int)) (ha : -2147483648 ≤ a ∧ a < 2147483648) (hb : -2147483648 ≤ b ∧ b < 2147483648) (k1 : b ≤ a → Y p l e R s m args below meth c D ad nL cn sl Q h tgt lv st) (k2 : ¬ (b ≤ a) → Y p l e R s m args below meth c D ad nL cn sl Q h (pc + 3) lv st) : Y p l e R s m args below meth c D ad nL cn sl Q h pc lv (vi b :: vi a :: st) :=
  fun H locs ls hz0 hh hs hl => lv_icmp_ge C.1 C.2.1 hd ht (fun q => k1 ((iI_le hb ha).mp q) H locs ls hz0 hh hs hl) (fun q => k2 (fun z => q ((iI_le hb ha).mpr z)) H locs ls hz0 hh hs hl)
theorem y_icmp_gt (C : Fx p s m args meth c D ad cc nL ret own Ts) {a b : Int} {off : Int} {tgt : Nat} (hd : decode cc pc = .ok (.if_icmp .gt off, 3)) (ht : (pc : Int) + off = (tgt : Int)) (ha : -2147483648 ≤ a ∧ a < 2147483648) (hb : -2147483648 ≤ b ∧ b < 2147483648) (k1 : b < a → Y p l e R s m args below meth c D ad nL cn sl Q h tgt lv st) (k2 : ¬ (b < a) → Y p l e R s m args below meth c D ad nL cn sl Q h (pc + 3) lv st) : Y p l e R s m args below meth c D ad nL cn sl Q h pc lv (vi b :: vi a :: st) :=
  fun H locs ls hz0 hh hs hl => lv_icmp_gt C.1 C.2.1 hd ht (fun q => k1 ((iI_lt hb ha).mp q) H locs ls hz0 hh hs hl) (fun q => k2 (fun z => q ((iI_lt hb ha).mpr z)) H locs ls hz0 hh hs hl)
theorem y_icmp_le (C : Fx p s m args meth c D ad cc nL ret own Ts) {a b : Int} {off : Int} {tgt : Nat} (hd : decode cc pc = .ok (.if_icmp .le off, 3)) (ht : (pc : Int) + off = (tgt : Int)) (ha : -2147483648 ≤ a ∧ a < 2147483648) (hb : -2147483648 ≤ b ∧ b < 2147483648) (k1 : a ≤ b → Y p l e R s m args below meth c D ad nL cn sl Q h tgt lv st) (k2 : ¬ (a ≤ b) → Y p l e R s m args below meth c D ad nL cn sl Q h (pc + 3) lv st) : Y p l e R s m args below meth c D ad nL cn sl Q h pc lv (vi b :: vi a :: st) :=
  fun H locs ls hz0 hh hs hl => lv_icmp_le C.1 C.2.1 hd ht (fun q => k1 ((iI_le ha hb).mp q) H locs ls hz0 hh hs hl) (fun q => k2 (fun z => q ((iI_le ha hb).mpr z)) H locs ls hz0 hh hs hl)
theorem y_goto (C : Fx p s m args meth c D ad cc nL ret own Ts) {off : Int} {tgt : Nat} (hd : decode cc pc = .ok (.goto off, 3)) (ht : (pc : Int) + off = (tgt : Int)) (k : Y p l e R s m args below meth c D ad nL cn sl Q h tgt lv st) : Y p l e R s m args below meth c D ad nL cn sl Q h pc lv st :=
  fun H locs ls hz0 hh hs hl => lv_goto C.1 C.2.1 hd ht (k H locs ls hz0 hh hs hl)
theorem y_get (C : Fx p s m args meth c D ad cc nL ret own Ts) {Cn : String} {T : u_T} {N ci index n : Nat} {fs : List Value} {v : Value} (kf : Nat) (hd : decode cc pc = .ok (.getfield index, 3)) (hin : ∀ w ∈ u_ws Cn T N, w ∈ Ts) (hlink : Cond.fieldLink own index (T kf).1 (T kf).2.1 (T kf).2.2.1 ∈ Ts) (hc : vwCl[ci]? = some (Cn, T, N)) (hk : kf < N) (he : h n = some (.inr (ci, fs))) (hv : fs[kf]? = some v) (k : Y p l e R s m args below meth c D ad nL cn sl Q h (pc + 3) lv (v :: st)) : Y p l e R s m args below meth c D ad nL cn sl Q h pc lv (.ref (ad n) :: st) :=
  fun H locs ls hz0 hh hs hl => va_get (D := D) (cl := vwCl) (ws := [(ad n, .inr (ci, fs))]) C.1 C.2.1 C.2.2.2.2.1 hin C.2.2.2.1 C.2.2.2.2.2.2.2.1 (fun j q hq => by
    have hj : j = 0 := by have := (List.getElem?_eq_some_iff.mp hq).1; simp at this; exact this
    subst hj; cases hq; exact (hh n _ he).2) 0 rfl hc kf hk (C.2.2.2.2.1 _ hlink) (fun _ z => z) hv hd (k H locs ls hz0 hh hs hl)
theorem y_alen (C : Fx p s m args meth c D ad cc nL ret own Ts) (ti : Nat) {n N : Nat} {ty : FieldType} {x : (Nat → Int32) ⊕ (Nat → Int64) ⊕ (Nat → UInt32) ⊕ (Nat → UInt64) ⊕ (Nat → Option Nat)} (hd : decode cc pc = .ok (.arraylength, 1)) (he : h n = some (.inl (D.1 (10 + ti), N, x))) (ht : (tysL D)[ti]? = some (D.1 (10 + ti), ty)) (k : Y p l e R s m args below meth c D ad nL cn sl Q h (pc + 1) lv (vi (N : Int) :: st)) : Y p l e R s m args below meth c D ad nL cn sl Q h pc lv (.ref (ad n) :: st) :=
  fun H locs ls hz0 hh hs hl => va_alen (D := D) (cl := vwCl) (tys := tysL D) (ws := [(ad n, .inl (D.1 (10 + ti), N, x))]) C.1 C.2.1 C.2.2.2.2.2.2.2.1 (fun j q hq => by
    have hj : j = 0 := by have := (List.getElem?_eq_some_iff.mp hq).1; simp at this; exact this
    subst hj; cases hq; exact (hh n _ he).2) 0 ti rfl ht (Int32.ofInt_eq_ofNat).symm hd (k H locs ls hz0 hh hs hl)
theorem y_iald (C : Fx p s m args meth c D ad cc nL ret own Ts) {n N : Nat} {f : Nat → Int} {z : Int} (hd : decode cc pc = .ok (.iaload, 1)) (he : h n = some (.inl (D.1 10, N, .inl (fun j => iI (f j))))) (hz : 0 ≤ z ∧ z < N) (hN : N ≤ 2147483647) (k : Y p l e R s m args below meth c D ad nL cn sl Q h (pc + 1) lv (vi (f z.toNat) :: st)) : Y p l e R s m args below meth c D ad nL cn sl Q h pc lv (vi z :: .ref (ad n) :: st) :=
  fun H locs ls hz0 hh hs hl => va_iald (D := D) (cl := vwCl) (tys := tysL D) (ws := [(ad n, .inl (D.1 10, N, .inl (fun j => iI (f j))))]) C.1 C.2.1 C.2.2.2.2.2.2.2.1 (fun j q hq => by
    have hj : j = 0 := by have := (List.getElem?_eq_some_iff.mp hq).1; simp at this; exact this
    subst hj; cases hq; exact (hh n _ he).2) 0 0 rfl rfl (iI_in hz hN) hd (by rw [iI_cl ⟨hz.1, by omega⟩]; exact k H locs ls hz0 hh hs hl)
theorem Y.eqh {h' : HM} (he : h = h') (k : Y p l e R s m args below meth c D ad nL cn sl Q h' pc lv st) : Y p l e R s m args below meth c D ad nL cn sl Q h pc lv st := he ▸ k
theorem Y.sub {lv' : List (Nat × Value)} (is : List Nat) (he : lv_pick lv is = lv') (k : Y p l e R s m args below meth c D ad nL cn sl Q h pc lv' st) : Y p l e R s m args below meth c D ad nL cn sl Q h pc lv st := fun H locs ls hz hh hs hl => k H locs ls hz hh hs (lv_sub hl is he)
theorem Y.cnt {cn' sl' : Nat} (h1 : cn = cn') (h2 : sl = sl') (k : Y p l e R s m args below meth c D ad nL cn' sl' Q h pc lv st) : Y p l e R s m args below meth c D ad nL cn sl Q h pc lv st := by subst h1; subst h2; exact k
theorem y_put (C : Fx p s m args meth c D ad cc nL ret own Ts) {Cn : String} {T : u_T} {N ci index n : Nat} {fs : List Value} {v : Value} {ty : FieldType} (kf : Nat) (hd : decode cc pc = .ok (.putfield index, 3)) (hin : ∀ w ∈ u_ws Cn T N, w ∈ Ts) (hlink : Cond.fieldLink own index (T kf).1 (T kf).2.1 (T kf).2.2.1 ∈ Ts) (hc : vwCl[ci]? = some (Cn, T, N)) (hk : kf < N) (ty0 : Nat → FieldType) (hty : ∀ k, k < N → parseFieldDescriptor (T k).2.2.1 = some (ty0 k)) (hnm : ∀ a, a < N → ∀ b, b < N → a ≠ b → (T a).2.1 ≠ (T b).2.1) (hfin : (T kf).2.2.2 = false) (hdt : parseFieldDescriptor (T kf).2.2.1 = some ty) (hn : narrow ty v = v) (hfit : fits ty v = true) (hlen : kf < fs.length) (he : h n = some (.inr (ci, fs))) (k : Y p l e R s m args below meth c D ad nL cn sl Q (hset h n (.inr (ci, fs.set kf v))) (pc + 3) lv st) : Y p l e R s m args below meth c D ad nL cn sl Q h pc lv (v :: .ref (ad n) :: st) := by
  intro H locs ls hz0 hh hs hl
  obtain ⟨hx, hb, -, hown, hts, -, -, hK, hi⟩ := C
  have hap := va_apart (own := own) hts hin ty0 hty hnm hK hc
  have hn0 := hh n _ he
  obtain ⟨r, h1, cell, q1, q2, q3, q4⟩ := hn0.2
  have hr : r = (Cn, T, N) := Option.some.inj (h1.symm.trans hc)
  subst hr
  obtain ⟨hS, hfc, kC, hkC, hkind⟩ := hK.1 ci _ hc
  obtain ⟨cf, kff, fi, f, hif, hsl⟩ := hS kf hk
  have hlay := hts _ (hin _ (u_in_lay hk))
  unfold u_lay at hlay
  rw [if_neg (by rw [hfin]; decide)] at hlay
  have hst := (u_facts hfc hkC (u_lays hts hin hk) hif).1
  have h6 := u_store hfc hkC hkind hlay hif hdt hn hfit
  refine W.putK hx hb (f := f) ⟨hown, hts _ hlink, ⟨_, _, _, hif⟩, hst⟩ (by rw [q2]; exact h6) q1 q3 (by rw [hsl]; exact k2_hasslot (q4 kf hk)) rfl rfl hd fun H' e1 e2 e3 => ?_
  rw [hsl] at e1 ⊢
  exact k H' _ ls (e2.trans hz0) (hh.set hi he ⟨_, hc, t_OB.to (V := updV (vp_V fs) kf v) ⟨_, e1, q2, q3, t_set q4 hap hk v⟩ (fun j _ => vp_updV_set hlen v j)⟩ e3) (hs.put e2 e3 (Or.inl ⟨n, hn0.1, rfl⟩)) hl
theorem y_putF (C : Fx p s m args meth c D ad cc nL ret own Ts) (hmi : meth.name = "<init>") {Cn : String} {T : u_T} {N ci index n : Nat} {fs : List Value} {v : Value} {ty : FieldType} (kf : Nat) (hd : decode cc pc = .ok (.putfield index, 3)) (hin : ∀ w ∈ u_ws Cn T N, w ∈ Ts) (hlink : Cond.fieldLink own index (T kf).1 (T kf).2.1 (T kf).2.2.1 ∈ Ts) (hc : vwCl[ci]? = some (Cn, T, N)) (hk : kf < N) (ty0 : Nat → FieldType) (hty : ∀ k, k < N → parseFieldDescriptor (T k).2.2.1 = some (ty0 k)) (hnm : ∀ a, a < N → ∀ b, b < N → a ≠ b → (T a).2.1 ≠ (T b).2.1) (hfin : (T kf).2.2.2 = true) (hdecl : (T kf).1 = own) (hdt : parseFieldDescriptor (T kf).2.2.1 = some ty) (hn : narrow ty v = v) (hfit : fits ty v = true) (hlen : kf < fs.length) (he : h n = some (.inr (ci, fs))) (k : Y p l e R s m args below meth c D ad nL cn sl Q (hset h n (.inr (ci, fs.set kf v))) (pc + 3) lv st) : Y p l e R s m args below meth c D ad nL cn sl Q h pc lv (v :: .ref (ad n) :: st) := by
  intro H locs ls hz0 hh hs hl
  obtain ⟨hx, hb, -, hown, hts, -, -, hK, hi⟩ := C
  have hap := va_apart (own := own) hts hin ty0 hty hnm hK hc
  have hn0 := hh n _ he
  obtain ⟨r, h1, cell, q1, q2, q3, q4⟩ := hn0.2
  have hr : r = (Cn, T, N) := Option.some.inj (h1.symm.trans hc)
  subst hr
  obtain ⟨hS, hfc, kC, hkC, hkind⟩ := hK.1 ci _ hc
  obtain ⟨cf, kff, fi, f, hif, hsl⟩ := hS kf hk
  have hlay := hts _ (hin _ (u_in_lay hk))
  unfold u_lay at hlay
  rw [if_pos hfin] at hlay
  have hst := (u_facts hfc hkC (u_lays hts hin hk) hif).1
  have hcf : m.cls = cf := by
    obtain ⟨_, _, c', _, _, _, -, -, hf', -, -, -, hown2, -⟩ := Cond.laysFinal_spec hlay
    have e1 : c' = cf := by have := hif.symm.trans hf'; simp at this; exact this.1.symm
    rw [hdecl] at hown2
    rw [← e1]; exact Option.some.inj (hown.symm.trans hown2)
  have h6 := u_fits hfc hkC hkind (Or.inr hlay) hif hdt hn hfit
  refine W.putFinK hx hb hown (hts _ hlink) hif hst hcf hmi (by rw [q2]; exact h6) q1 q3 (by rw [hsl]; exact k2_hasslot (q4 kf hk)) rfl rfl hd fun H' e1 e2 e3 => ?_
  rw [hsl] at e1 ⊢
  exact k H' _ ls (e2.trans hz0) (hh.set hi he ⟨_, hc, t_OB.to (V := updV (vp_V fs) kf v) ⟨_, e1, q2, q3, t_set q4 hap hk v⟩ (fun j _ => vp_updV_set hlen v j)⟩ e3) (hs.put e2 e3 (Or.inl ⟨n, hn0.1, rfl⟩)) hl
theorem y_obj (C : Fx p s m args meth c D ad cc nL ret own Ts) {idx a : Nat} (hd : decode cc pc = .ok (.invokespecial idx, 3)) (hlink : Cond.methodLink own idx objectInit ∈ Ts) (hinst : Cond.instanceMethod objectInit ∈ Ts) (hcode : Cond.code objectInit ⟨#[0xb1]⟩ 1 none ∈ Ts) (hfr : 1 ≤ R.frames) (hlo : (st.map fun v => v.category).sum + 12 ≤ R.locals) (k : Y p l e R s m args below meth c D ad nL cn sl Q h (pc + 3) lv st) : Y p l e R s m args below meth c D ad nL cn sl Q h pc lv (.ref a :: st) :=
  fun H locs ls hz0 hh hs hl => W.objInit C.1 C.2.1 C.2.2.2.1 (C.2.2.2.2.1 _ hlink) (C.2.2.2.2.1 _ hinst) (C.2.2.2.2.1 _ hcode) rfl (by rw [C.2.2.1]; exact hl.1) rfl hd hfr (by show 2 * 0 + _ + 12 ≤ _; omega) (k H locs ls hz0 hh hs hl)
theorem hw.push {H H1 : Heap} {n : Nat} {x : va_E} (hh : hw D ad h H) (hn : n < 64) (ha : ad n = H.size) (hx : va_at D vwCl (ad n, x) H1) (o1 : ∀ q : Nat, q < H.size → H1[q]? = H[q]?) : hw D ad (hset h n x) H1 := by
  intro k y hk
  by_cases hkn : k = n
  · subst hkn
    rw [hset_s] at hk
    cases hk
    exact ⟨hn, hx⟩
  · rw [hset_n hkn] at hk
    obtain ⟨h1, h2⟩ := hh k y hk
    exact ⟨h1, h2.kept (o1 _ h2.lt)⟩
theorem va_S.more {A : Nat → Prop} {H0 H H1 : Heap} {locs : List Loc} (hs : va_S A H0 H locs) (z1 : H1.size = H.size + 1) (o1 : ∀ q : Nat, q < H.size → H1[q]? = H[q]?) : va_S A H0 H1 locs := ⟨by have := hs.1; omega, fun q h1 h2 => (o1 q (Nat.lt_of_lt_of_le h1 hs.1)).trans (hs.2.1 q h1 h2), hs.2.2⟩
theorem y_new (C : Fx p s m args meth c D ad cc nL ret own Ts) {Cn : String} {T : u_T} {N ci index : Nat} (nm : Nat) {fs : List Value} (hd : decode cc pc = .ok (.new index, 3)) (hin : ∀ w ∈ u_ws Cn T N, w ∈ Ts) (ty : Nat → FieldType) (hty : ∀ k, k < N → parseFieldDescriptor (T k).2.2.1 = some (ty k)) (hcl : Cond.classLink own index Cn ∈ Ts) (hinst : Cond.instantiable Cn N ∈ Ts) (hini : Cond.initialized Cn ∈ Ts) (hc : vwCl[ci]? = some (Cn, T, N)) (hfs : ∀ j, j < N → defaultValue (ty j) = vp_V fs j) (hcells : cn + 1 ≤ R.cells) (hslots : sl + N ≤ R.slots) (hnm : nm < 64) (had : ad nm = s.heap.size + cn) (k : Y p l e R s m args below meth c D ad nL (cn + 1) (sl + N) Q (hset h nm (.inr (ci, fs))) (pc + 3) lv (.ref (ad nm) :: st)) : Y p l e R s m args below meth c D ad nL cn sl Q h pc lv st := by
  intro H locs ls hz0 hh hs hl
  have hKn := C.2.2.2.2.2.2.2.1.1 ci _ hc
  have hsz : ad nm = H.size := had.trans hz0.symm
  refine W.newcK C.1 C.2.1 C.2.2.2.1 (C.2.2.2.2.1 _ hcl) (C.2.2.2.2.1 _ hinst) (C.2.2.2.2.1 _ hini) rfl hd hcells hslots hKn.2.1 hsz.symm fun H1 kC hkC e1 z1 o1 => ?_
  rw [hsz] at z1
  have o1' : ∀ q : Nat, q < H.size → H1[q]? = H[q]? := fun q hq => o1 q (by rw [hsz]; exact hq)
  exact k H1 locs ls (by omega) (hh.push hnm hsz ⟨_, hc, (u_born ty C.2.2.2.2.1 hin hKn hkC e1 hty).to hfs⟩ o1') (hs.more z1 o1') hl
theorem y_newI (C : Fx p s m args meth c D ad cc nL ret own Ts) (nm N : Nat) (hd : decode cc pc = .ok (.newarray .int, 2)) (harr : Cond.arrayClass .int ∈ Ts) {z : Int} (hz : z = N) (hN : N ≤ 65536) (hcells : cn + 1 ≤ R.cells) (hslots : sl + N ≤ R.slots) (hnm : nm < 64) (had : ad nm = s.heap.size + cn) (k : Y p l e R s m args below meth c D ad nL (cn + 1) (sl + N) Q (hset h nm (.inl (D.1 10, N, .inl (fun _ => iI 0)))) (pc + 2) lv (.ref (ad nm) :: st)) : Y p l e R s m args below meth c D ad nL cn sl Q h pc lv (vi z :: st) := by
  intro H locs ls hz0 hh hs hl
  subst hz
  have hsz : ad nm = H.size := had.trans hz0.symm
  refine va_newaK (atype := .int) C.1 C.2.1 (C.2.2.2.2.1 _ harr) rfl hd rfl (by rw [Int32.not_lt, Int32.le_iff_toInt_le, iI_t (by omega)]; show (0 : Int) ≤ _; omega) (by rw [iI_cl (by omega), Int.toNat_natCast]) (show N * 4 ≤ _ by omega) hcells hslots hsz.symm fun H1 cA e1 z1 o1 hAr hNm => ?_
  have hcA : cA = D.1 10 := Option.some.inj (hNm.symm.trans (C.2.2.2.2.2.2.2.1.2 0 _ rfl).2)
  subst hcA
  rw [hsz] at z1
  have o1' : ∀ q : Nat, q < H.size → H1[q]? = H[q]? := fun q hq => o1 q (by rw [hsz]; exact hq)
  exact k H1 locs ls (by omega) (hh.push hnm hsz e1 o1') (hs.more z1 o1') hl
theorem y_newL (C : Fx p s m args meth c D ad cc nL ret own Ts) (nm N : Nat) (hd : decode cc pc = .ok (.newarray .long, 2)) (harr : Cond.arrayClass .long ∈ Ts) {z : Int} (hz : z = N) (hN : N ≤ 65536) (hcells : cn + 1 ≤ R.cells) (hslots : sl + N ≤ R.slots) (hnm : nm < 64) (had : ad nm = s.heap.size + cn) (k : Y p l e R s m args below meth c D ad nL (cn + 1) (sl + N) Q (hset h nm (.inl (D.1 11, N, .inr (.inl (fun _ => lI 0))))) (pc + 2) lv (.ref (ad nm) :: st)) : Y p l e R s m args below meth c D ad nL cn sl Q h pc lv (vi z :: st) := by
  intro H locs ls hz0 hh hs hl
  subst hz
  have hsz : ad nm = H.size := had.trans hz0.symm
  refine va_newaK (atype := .long) C.1 C.2.1 (C.2.2.2.2.1 _ harr) rfl hd rfl (by rw [Int32.not_lt, Int32.le_iff_toInt_le, iI_t (by omega)]; show (0 : Int) ≤ _; omega) (by rw [iI_cl (by omega), Int.toNat_natCast]) (show N * 8 ≤ _ by omega) hcells hslots hsz.symm fun H1 cA e1 z1 o1 hAr hNm => ?_
  have hcA : cA = D.1 11 := Option.some.inj (hNm.symm.trans (C.2.2.2.2.2.2.2.1.2 1 _ rfl).2)
  subst hcA
  rw [hsz] at z1
  have o1' : ∀ q : Nat, q < H.size → H1[q]? = H[q]? := fun q hq => o1 q (by rw [hsz]; exact hq)
  exact k H1 locs ls (by omega) (hh.push hnm hsz e1 o1') (hs.more z1 o1') hl
theorem y_newZ (C : Fx p s m args meth c D ad cc nL ret own Ts) (nm N : Nat) (hd : decode cc pc = .ok (.newarray .boolean, 2)) (harr : Cond.arrayClass .boolean ∈ Ts) {z : Int} (hz : z = N) (hN : N ≤ 65536) (hcells : cn + 1 ≤ R.cells) (hslots : sl + N ≤ R.slots) (hnm : nm < 64) (had : ad nm = s.heap.size + cn) (k : Y p l e R s m args below meth c D ad nL (cn + 1) (sl + N) Q (hset h nm (.inl (D.1 12, N, .inl (fun _ => iI 0)))) (pc + 2) lv (.ref (ad nm) :: st)) : Y p l e R s m args below meth c D ad nL cn sl Q h pc lv (vi z :: st) := by
  intro H locs ls hz0 hh hs hl
  subst hz
  have hsz : ad nm = H.size := had.trans hz0.symm
  refine va_newaK (atype := .boolean) C.1 C.2.1 (C.2.2.2.2.1 _ harr) rfl hd rfl (by rw [Int32.not_lt, Int32.le_iff_toInt_le, iI_t (by omega)]; show (0 : Int) ≤ _; omega) (by rw [iI_cl (by omega), Int.toNat_natCast]) (show N * 1 ≤ _ by omega) hcells hslots hsz.symm fun H1 cA e1 z1 o1 hAr hNm => ?_
  have hcA : cA = D.1 12 := Option.some.inj (hNm.symm.trans (C.2.2.2.2.2.2.2.1.2 2 _ rfl).2)
  subst hcA
  rw [hsz] at z1
  have o1' : ∀ q : Nat, q < H.size → H1[q]? = H[q]? := fun q hq => o1 q (by rw [hsz]; exact hq)
  exact k H1 locs ls (by omega) (hh.push hnm hsz e1 o1') (hs.more z1 o1') hl
theorem y_newQ (C : Fx p s m args meth c D ad cc nL ret own Ts) (ti nm N : Nat) {Cn : String} {index : Nat} (hd : decode cc pc = .ok (.anewarray index, 3)) (hclink : Cond.classLink own index Cn ∈ Ts) (hover : va_AO Cn s) (ht : (tysL D)[ti]? = some (D.1 (10 + ti), .object Cn)) {z : Int} (hz : z = N) (hN : N ≤ 65536) (hcells : cn + 1 ≤ R.cells) (hslots : sl + N ≤ R.slots) (hnm : nm < 64) (had : ad nm = s.heap.size + cn) (k : Y p l e R s m args below meth c D ad nL (cn + 1) (sl + N) Q (hset h nm (.inl (D.1 (10 + ti), N, .inr (.inr (.inr (.inr (fun _ => none))))))) (pc + 3) lv (.ref (ad nm) :: st)) : Y p l e R s m args below meth c D ad nL cn sl Q h pc lv (vi z :: st) := by
  intro H locs ls hz0 hh hs hl
  subst hz
  have hsz : ad nm = H.size := had.trans hz0.symm
  have hcl : (iI (N : Int)).toNatClampNeg = N := by rw [iI_cl (by omega), Int.toNat_natCast]
  refine W.anew C.1 C.2.1 C.2.2.2.1 (C.2.2.2.2.1 _ hclink) (va_AO.use hover) rfl hd rfl (by rw [Int32.not_lt, Int32.le_iff_toInt_le, iI_t (by omega)]; show (0 : Int) ≤ _; omega) (by rw [hcl]; omega) hcells (by rw [hcl]; exact hslots) fun cA kA comp f1 f2 f3 f4 => ?_
  obtain ⟨kA', comp', -, -, -, g4⟩ := (C.2.2.2.2.2.2.2.1.2 ti _ ht).2
  have hcA : cA = D.1 (10 + ti) := Option.some.inj (f1.symm.trans g4)
  subst hcA
  rw [hcl]
  generalize hH1 : H.push ({ cls := D.1 (10 + ti), slots := Array.replicate N .null, vm := .none } : Cell) = H1
  have z1 : H1.size = H.size + 1 := by rw [← hH1, Array.size_push]
  have e1 : H1[H.size]? = some (arrV (D.1 (10 + ti)) N (fun _ => .null)) := by rw [← hH1, Array.getElem?_push_size, ← arrV_new]
  have o1 : ∀ q : Nat, q < H.size → H1[q]? = H[q]? := fun q hq => by rw [← hH1, Array.getElem?_push, if_neg (Nat.ne_of_lt hq)]
  have := k H1 locs ls (by omega) (hh.push hnm hsz (by rw [hsz]; exact e1) o1) (hs.more z1 o1) hl
  rw [hsz] at this
  exact this
theorem y_ast (C : Fx p s m args meth c D ad cc nL ret own Ts) (ti ci : Nat) {r : vw_C} {n nv0 N : Nat} {vs : List Value} {f : Nat → Option Nat} {z : Int} (hd : decode cc pc = .ok (.aastore, 1)) (he : h n = some (.inl (D.1 (10 + ti), N, .inr (.inr (.inr (.inr f)))))) (hv : h nv0 = some (.inr (ci, vs))) (hc : vwCl[ci]? = some r) (ht : (tysL D)[ti]? = some (D.1 (10 + ti), .object r.1)) (hz : 0 ≤ z ∧ z < N) (hN : N ≤ 65536) (k : Y p l e R s m args below meth c D ad nL cn sl Q (hset h n (.inl (D.1 (10 + ti), N, .inr (.inr (.inr (.inr (va_up f z.toNat (some (ad nv0))))))))) (pc + 1) lv st) : Y p l e R s m args below meth c D ad nL cn sl Q h pc lv (.ref (ad nv0) :: vi z :: .ref (ad n) :: st) := by
  intro H locs ls hz0 hh hs hl
  have hn0 := hh n _ he
  have hv0 := hh nv0 _ hv
  have hcl : (iI z).toNatClampNeg = z.toNat := iI_cl (by omega)
  obtain ⟨r', hr', cellV, g1, g2, g3, -⟩ := hv0.2
  have hcls := (C.2.2.2.2.2.2.2.1.1 ci r hc).2
  obtain ⟨kA, comp, k1, k2, k3, -⟩ := (C.2.2.2.2.2.2.2.1.2 ti _ ht).2
  have hcomp : comp = D.1 ci := Option.some.inj (k3.symm.trans hcls.1)
  subst hcomp
  obtain ⟨kC, hkC, -⟩ := hcls.2
  refine W.aast (j := iI z) C.1 C.2.1 (show H[ad n]? = some (vp_cell _ _) from hn0.2) (fun q h => by cases h) (fun h => by cases h) k1 k2 rfl hkC ⟨by rw [Int32.not_lt, Int32.le_iff_toInt_le, iI_t (z := z) (by omega)]; exact hz.1, by show (iI z).toNatClampNeg < (arrV _ N _).slots.size; rw [arrV_size, hcl]; omega⟩ g1 (fun q h => by rw [g3] at h; cases h) (by rw [g2]; exact hkC) (by rw [g2]; exact va_assign hcls) rfl rfl hd fun H1 e z1 oq => ?_
  refine k H1 _ ls (z1.trans hz0) (hh.set C.2.2.2.2.2.2.2.2 he ?_ oq) (hs.put z1 oq (Or.inl ⟨n, hn0.1, rfl⟩)) hl
  show H1[ad n]? = some (vp_cell _ _)
  rw [e, vp_cell_q, vp_cell_q, arrV_store, hcl]
  congr 2
  funext q
  by_cases hq : q = z.toNat
  · subst hq
    simp [updV, va_up, va_rf]
  · simp [updV, va_up, hq]
theorem y_vret {a sz mc ms k0 : Nat} {post : (Nat → va_E) → Prop} (C : Fx p s m args meth c D ad cc nL none own Ts) (hsz : s.heap.size = sz) (hA : adK ad k0 a sz) (hd : decode cc pc = .ok (.return_, 1)) (hp : ∃ cs : Nat → va_E, post cs ∧ h k0 = some (cs 0) ∧ ∀ i, i < mc → ∃ n, h n = some (cs (i + 1)) ∧ ad n = sz + i) : Y p l e R s m args below meth c D ad nL mc ms (MQ below (Qn D a sz mc post) args s mc ms (fr1 a sz)) h pc lv [] := by
  intro H locs ls hz0 hh hs hl
  obtain ⟨cs, h1, h2, h3⟩ := hp
  have sub : ∀ q, aB ad s.heap.size q → fr1 a sz q := fun q hq => by
    rcases hq with ⟨n, hn, e⟩ | hq
    · rw [e]
      exact hA.2.2.2 n hn
    · exact Or.inr (by omega)
  refine W.vret C.1 C.2.1 C.2.2.2.2.2.1 (fun t ht hW => ⟨⟨rfl, ?_, va_K.moved hW.alike C.2.2.2.2.2.2.2.1, cs, h1, ?_, fun i hi => ?_⟩, ?_⟩) (fun q hq => sub _ (hs.2.2 q hq)) hd C.2.2.2.2.2.2.1
  · rw [ht, hz0, hsz]
  · rw [ht, ← hA.2.2.1]; exact (hh k0 _ h2).2
  · obtain ⟨n, q1, q2⟩ := h3 i hi
    rw [ht, ← q2]; exact (hh n _ q1).2
  · exact ⟨by rw [ht]; exact hs.1, fun q h1 h2 => by rw [ht]; exact hs.2.1 q h1 (fun h3 => h2 (sub q h3))⟩
/-- a call that makes no cell, of a method whose world is the whole map -/
theorem y_run {ls : Array Slot} {H : Heap} {locs : List Loc} {post : Option Value → HM → Prop} {st0 : List Value} (hz0 : H.size = s.heap.size + cn) (hs : va_S (aB ad s.heap.size) s.heap H locs) (hl : lv_has ls nL lv) {a : Array Value} (hr : va_Run p l e R s m args below meth c H locs cn sl 0 0 (F0 m pc ls st0) st (Qx D ad post a) (aA ad)) (k : ∀ (v : Option Value) (h1 : HM), post v h1 → Y p l e R s m args below meth c D ad nL cn sl Q h1 (pc + 3) lv (v.toList ++ st)) : W p l e R s m args below meth c H locs cn sl Q (F0 m pc ls st0) := by
  intro T hT Xx
  obtain ⟨v, st₀, t, T', L, h0, X', hL, e1, e2, ⟨⟨v', h1, hv, hp, hwo⟩, hz, hk⟩, stp⟩ := hr T hT Xx
  cases hv
  rw [h0] at hz hk
  have hsz : T'.heap.size = s.heap.size + cn := by
    have := X'.heapSize
    rw [e1] at this ⊢
    omega
  obtain ⟨t2, a1, b1⟩ := k v h1 hp T'.heap (locs ++ L) ls hsz (by rw [e1]; exact hwo.1) ⟨Nat.le_trans hs.1 (by rw [e1]; exact hz), fun q g1 g2 => by rw [e1, hk q (Nat.lt_of_lt_of_le g1 hs.1) (fun g3 => g2 (Or.inl g3))]; exact hs.2.1 q g1 g2, fun q hq => by
      rcases List.mem_append.mp hq with g | g
      · exact hs.2.2 q g
      · exact Or.inl (hL q g)⟩ hl T' rfl X'
  exact ⟨t2, stp t2 a1, b1⟩
theorem y_callV (C : Fx p s m args meth c D ad cc nL ret own Ts) {y : MethodName} {ws ws' : List Cond} {fr lo : Nat} {post : Option Value → HM → Prop} {As st0 : List Value} {index n ci nn : Nat} {r : vw_C} {fs : List Value} {bytes : ByteArray} {maxL : Nat} {rt : Option FieldType} (hc : Ct l y ws fr lo D ad (.ref (ad n) :: As) h post) (hG : GoodIn Ts (wsV own index y.cls y ws)) (hw : ws = Cond.code y bytes maxL rt :: ws') (hd2 : y.cls ≠ "java/lang/invoke/MethodHandle" ∧ y.cls ≠ "java/lang/invoke/VarHandle" ∧ (parseMethodDescriptor y.desc).map (fun d => d.parameters.length) = some nn) (hR : fr + 1 ≤ R.frames ∧ 8 + (maxL + 11) + lo ≤ R.locals) (hRc : cn ≤ R.cells ∧ sl ≤ R.slots)
    (hcl : vwCl[ci]? = some r) (hr1 : r.1 = y.cls) (he : h n = some (.inr (ci, fs))) (hn : As.length = nn) (hst : st0 = As.reverse ++ .ref (ad n) :: st) (hW : (st.map fun v => v.category).sum ≤ 8) (hd : decode cc pc = .ok (.invokevirtual index, 3))
    (k : ∀ (v : Option Value) (h1 : HM), post v h1 → Y p l e R s m args below meth c D ad nL cn sl Q h1 (pc + 3) lv (v.toList ++ st)) : Y p l e R s m args below meth c D ad nL cn sl Q h pc lv st0 := by
  intro H locs ls hz0 hh hs hl
  subst hst
  have hrv := va_recv (D := D) (cl := vwCl) (ws := [(ad n, .inr (ci, fs))]) C.2.2.2.2.2.2.2.1 (fun j q hq => by
    have hj : j = 0 := by have := (List.getElem?_eq_some_iff.mp hq).1; simp at this; exact this
    subst hj; cases hq; exact (hh n _ he).2) hcl (q0 := 0) rfl
  rw [hr1] at hrv
  exact y_run hz0 hs hl (va_runV (As := As) (rest := st) ⟨C.1, C.2.1, C.2.2.1, C.2.2.2.1, C.2.2.2.2.1⟩ hc (cwV nn C.2.2.2.2.1 hG hw rfl rfl ⟨rfl, hd2⟩ hR) ⟨WO.blind, hrv, fun U hU hWm => ⟨rfl, WO.at C hh U hU hWm⟩⟩ rfl hn hl.1 rfl (by show 2 * 0 + _ ≤ 8; omega) hd ⟨by omega, by omega⟩) k
theorem y_callS (C : Fx p s m args meth c D ad cc nL ret own Ts) {y : MethodName} {ws ws' : List Cond} {fr lo : Nat} {post : Option Value → HM → Prop} {As st0 : List Value} {index nn : Nat} {bytes : ByteArray} {maxL : Nat} {rt : Option FieldType} (hc : Ct l y ws fr lo D ad As h post) (hG : GoodIn Ts (va_wsS own index y ws)) (hw : ws = Cond.code y bytes maxL rt :: ws') (hd2 : y.cls ≠ "java/lang/invoke/MethodHandle" ∧ y.cls ≠ "java/lang/invoke/VarHandle" ∧ (parseMethodDescriptor y.desc).map (fun d => d.parameters.length) = some nn) (hR : fr + 1 ≤ R.frames ∧ 8 + (maxL + 11) + lo ≤ R.locals) (hRc : cn ≤ R.cells ∧ sl ≤ R.slots)
    (hn : As.length = nn) (hst : st0 = As.reverse ++ st) (hW : (st.map fun v => v.category).sum ≤ 8) (hd : decode cc pc = .ok (.invokestatic index, 3))
    (k : ∀ (v : Option Value) (h1 : HM), post v h1 → Y p l e R s m args below meth c D ad nL cn sl Q h1 (pc + 3) lv (v.toList ++ st)) : Y p l e R s m args below meth c D ad nL cn sl Q h pc lv st0 := by
  intro H locs ls hz0 hh hs hl
  subst hst
  exact y_run hz0 hs hl (va_runS (As := As) (rest := st) ⟨C.1, C.2.1, C.2.2.1, C.2.2.2.1, C.2.2.2.2.1⟩ hc (va_cwS nn C.2.2.2.2.1 hG hw rfl rfl hd2 hR) ⟨WO.blind, fun U hU hWm => ⟨rfl, WO.at C hh U hU hWm⟩⟩ rfl hn hl.1 rfl (by show 2 * 0 + _ ≤ 8; omega) hd ⟨by omega, by omega⟩) k
/-- the new cells get their names -/
def addc (h : HM) (cs : Nat → va_E) : List Nat → Nat → HM
  | [], _ => h
  | n :: r, i => addc (hset h n (cs i)) cs r (i + 1)
theorem addc_o {cs : Nat → va_E} {q : Nat} : ∀ {ns : List Nat} {h : HM} {i : Nat}, q ∉ ns → addc h cs ns i q = h q
  | [], _, _, _ => rfl
  | n :: r, h, i, hq => by
    show addc (hset h n (cs i)) cs r (i + 1) q = h q
    rw [addc_o (fun hm => hq (List.mem_cons_of_mem _ hm)), hset_n (fun e => hq (by rw [e]; exact List.mem_cons_self))]
theorem addc_i {cs : Nat → va_E} {q : Nat} : ∀ {ns : List Nat} {h : HM} {i : Nat}, ns.Nodup → q ∈ ns → ∃ j, ns[j]? = some q ∧ addc h cs ns i q = some (cs (i + j))
  | [], _, _, _, hq => absurd hq List.not_mem_nil
  | n :: r, h, i, hd, hq => by
    show ∃ j, (n :: r)[j]? = some q ∧ addc (hset h n (cs i)) cs r (i + 1) q = some (cs (i + j))
    have hnd := List.nodup_cons.mp hd
    by_cases c : q = n
    · subst c
      exact ⟨0, rfl, by rw [addc_o hnd.1, hset_s]; rfl⟩
    · obtain ⟨j, h1, h2⟩ := addc_i (cs := cs) (h := hset h n (cs i)) (i := i + 1) hnd.2 ((List.mem_cons.mp hq).resolve_left c)
      exact ⟨j + 1, by rw [List.getElem?_cons_succ]; exact h1, by rw [h2, show i + 1 + j = i + (j + 1) by omega]⟩
theorem y_runI {ls : Array Slot} {H : Heap} {locs : List Loc} {post : (Nat → va_E) → Prop} {mc ms k0 : Nat} {x0 : va_E} {ns : List Nat} {st0 : List Value} {a : Array Value} (C : Fx p s m args meth c D ad cc nL ret own Ts) (hz0 : H.size = s.heap.size + cn) (hh : hw D ad h H) (hs : va_S (aB ad s.heap.size) s.heap H locs) (hl : lv_has ls nL lv) (hk0 : h k0 = some x0) (hns : ns.length = mc) (hnd : ns.Nodup) (hnk : k0 ∉ ns) (hna : ∀ j n, ns[j]? = some n → n < 64 ∧ ad n = s.heap.size + cn + j)
    (hr : va_Run p l e R s m args below meth c H locs cn sl mc ms (F0 m pc ls st0) st (Qn D (ad k0) (s.heap.size + cn) mc post a) (fr1 (ad k0) (s.heap.size + cn)))
    (k : ∀ cs : Nat → va_E, post cs → Y p l e R s m args below meth c D ad nL (cn + mc) (sl + ms) Q (addc (hset h k0 (cs 0)) cs ns 1) (pc + 3) lv st) : W p l e R s m args below meth c H locs cn sl Q (F0 m pc ls st0) := by
  intro T hT Xx
  obtain ⟨v, st₀, t, T', L, h0, X', hL, e1, e2, ⟨⟨ho, hsz, hK, cs, hp, hc0, hcn⟩, hz, hk⟩, stp⟩ := hr T hT Xx
  cases ho
  rw [h0] at hz hk
  have hkk := (hh k0 _ hk0)
  have hW1 : hw D ad (addc (hset h k0 (cs 0)) cs ns 1) T'.heap := by
    intro n x hx
    rw [e1]
    by_cases hm : n ∈ ns
    · obtain ⟨j, j1, j2⟩ := addc_i (cs := cs) (h := hset h k0 (cs 0)) (i := 1) hnd hm
      rw [j2] at hx
      cases hx
      obtain ⟨n1, n2⟩ := hna j n j1
      refine ⟨n1, ?_⟩
      rw [n2, show 1 + j = j + 1 by omega]
      exact hcn j (by rw [← hns]; exact (List.getElem?_eq_some_iff.mp j1).1)
    · rw [addc_o hm] at hx
      by_cases hn : n = k0
      · rw [hn, hset_s] at hx
        cases hx
        rw [hn]
        exact ⟨hkk.1, hc0⟩
      · rw [hset_n hn] at hx
        obtain ⟨n1, n2⟩ := hh n x hx
        refine ⟨n1, n2.kept (hk _ n2.lt (fun hf => ?_))⟩
        rcases hf with hf | hf
        · exact hn (C.2.2.2.2.2.2.2.2 n k0 n1 hkk.1 hf)
        · have h2 : ad n < H.size := n2.lt
          have h3 : s.heap.size + cn ≤ ad n := hf
          omega
  have hF1 : ∀ q : Nat, q < s.heap.size → ¬ aB ad s.heap.size q → T'.heap[q]? = s.heap[q]? := by
    intro q g1 g2
    have hne : ¬ fr1 (ad k0) (s.heap.size + cn) q := fun hf => by
      rcases hf with hf | hf
      · exact g2 (Or.inl ⟨k0, hkk.1, hf⟩)
      · have := hs.1; omega
    rw [e1, hk q (Nat.lt_of_lt_of_le g1 hs.1) hne]
    exact hs.2.1 q g1 g2
  have hL1 : ∀ l ∈ locs ++ L, aB ad s.heap.size l.base := by
    intro q hq
    rcases List.mem_append.mp hq with g | g
    · exact hs.2.2 q g
    · rcases hL q g with hf | hf
      · exact Or.inl ⟨k0, hkk.1, hf⟩
      · exact Or.inr (by omega)
  obtain ⟨t2, a1, b1⟩ := k cs hp T'.heap (locs ++ L) ls (by rw [e1, hsz]; omega) hW1 ⟨by rw [e1]; exact Nat.le_trans hs.1 hz, hF1, hL1⟩ hl T' rfl X'
  exact ⟨t2, stp t2 a1, b1⟩
theorem Cn.blind {av : List Value} {a sz : Nat} {x0 : va_E} {P : State → Prop} (hP : ∀ (U : State) (g : JFrame) (mk : MethodId) (a' : Array Value), P U → P (U.calling g mk a')) : FrameBlind (va_Pc av (fun U => U.heap.size = sz ∧ va_at D vwCl (a, x0) U.heap ∧ va_K D vwCl (tysL D) U ∧ P U)) := fun a' U g mk q => ⟨q.1, q.2.1, q.2.2.1, va_K.moved (u := U) (U := U.calling g mk a') (Vm.Alike.refl U.vm) q.2.2.2.1, hP U g mk a' q.2.2.2.2⟩
theorem y_callI (C : Fx p s m args meth c D ad cc nL ret own Ts) {y : MethodName} {ws ws' : List Cond} {fr lo mc ms k0 : Nat} {x0 : va_E} {P : State → Prop} {post : (Nat → va_E) → Prop} {ns : List Nat} {As st0 : List Value} {index nn : Nat} {bytes : ByteArray} {maxL : Nat} (hc : Cn l y ws fr lo mc ms D (.ref (ad k0) :: As) (ad k0) (s.heap.size + cn) x0 P post) (hPb : ∀ (U : State) (g : JFrame) (mk : MethodId) (a' : Array Value), P U → P (U.calling g mk a')) (hPs : ∀ U : State, s.WarmedH U.vm → P U) (hG : GoodIn Ts ws) (hw0 : ws = Cond.code y bytes maxL none :: ws') (hini : Cond.initialized y.cls ∈ Ts) (hlk : Cond.methodLink own index y ∈ Ts) (hins : Cond.instanceMethod y ∈ Ts) (hyi : y.name = "<init>") (hd2 : y.cls ≠ "java/lang/invoke/MethodHandle" ∧ y.cls ≠ "java/lang/invoke/VarHandle" ∧ (parseMethodDescriptor y.desc).map (fun d => d.parameters.length) = some nn) (hR : fr + 1 ≤ R.frames ∧ 8 + (maxL + 11) + lo ≤ R.locals) (hRc : cn + mc ≤ R.cells ∧ sl + ms ≤ R.slots)
    (hk0 : h k0 = some x0) (hns : ns.length = mc) (hnd : ns.Nodup) (hnk : k0 ∉ ns) (hna : ∀ j n, ns[j]? = some n → n < 64 ∧ ad n = s.heap.size + cn + j) (hn : As.length = nn) (hst : st0 = As.reverse ++ .ref (ad k0) :: st) (hW : (st.map fun v => v.category).sum ≤ 8) (hd : decode cc pc = .ok (.invokespecial index, 3))
    (k : ∀ cs : Nat → va_E, post cs → Y p l e R s m args below meth c D ad nL (cn + mc) (sl + ms) Q (addc (hset h k0 (cs 0)) cs ns 1) (pc + 3) lv st) : Y p l e R s m args below meth c D ad nL cn sl Q h pc lv st0 := by
  intro H locs ls hz0 hh hs hl
  subst hst
  refine y_runI C hz0 hh hs hl hk0 hns hnd hnk hna (va_runI (As := As) (rest := st) ⟨C.1, C.2.1, C.2.2.1, C.2.2.2.1, C.2.2.2.2.1⟩ hc (cwI nn C.2.2.2.2.1 hG hw0 rfl rfl (C.2.2.2.2.1 _ hini) (C.2.2.2.2.1 _ hlk) (C.2.2.2.2.1 _ hins) hyi hd2 hR) ⟨Cn.blind hPb, fun U hU hWm => ⟨rfl, by rw [hU]; exact hz0, by rw [hU]; exact (hh k0 _ hk0).2, va_K.moved hWm.alike C.2.2.2.2.2.2.2.1, hPs U hWm⟩⟩ rfl hn hl.1 rfl (by show 2 * 0 + _ ≤ 8; omega) hd hRc) k
/-- the same, of a nest mate's private constructor -/
theorem y_callN (C : Fx p s m args meth c D ad cc nL ret own Ts) {y : MethodName} {ws ws' : List Cond} {fr lo mc ms k0 : Nat} {x0 : va_E} {P : State → Prop} {post : (Nat → va_E) → Prop} {ns : List Nat} {As st0 : List Value} {index nn : Nat} {host : String} {bytes : ByteArray} {maxL : Nat} (hc : Cn l y ws fr lo mc ms D (.ref (ad k0) :: As) (ad k0) (s.heap.size + cn) x0 P post) (hPb : ∀ (U : State) (g : JFrame) (mk : MethodId) (a' : Array Value), P U → P (U.calling g mk a')) (hPs : ∀ U : State, s.WarmedH U.vm → P U) (hG : GoodIn Ts ws) (hw0 : ws = Cond.code y bytes maxL none :: ws') (hini : Cond.initialized y.cls ∈ Ts) (hlk : va_Nw (.methodLinkNest own index y host) s) (hins : Cond.instanceMethod y ∈ Ts) (hyi : y.name = "<init>") (hd2 : y.cls ≠ "java/lang/invoke/MethodHandle" ∧ y.cls ≠ "java/lang/invoke/VarHandle" ∧ (parseMethodDescriptor y.desc).map (fun d => d.parameters.length) = some nn) (hR : fr + 1 ≤ R.frames ∧ 8 + (maxL + 11) + lo ≤ R.locals) (hRc : cn + mc ≤ R.cells ∧ sl + ms ≤ R.slots)
    (hk0 : h k0 = some x0) (hns : ns.length = mc) (hnd : ns.Nodup) (hnk : k0 ∉ ns) (hna : ∀ j n, ns[j]? = some n → n < 64 ∧ ad n = s.heap.size + cn + j) (hn : As.length = nn) (hst : st0 = As.reverse ++ .ref (ad k0) :: st) (hW : (st.map fun v => v.category).sum ≤ 8) (hd : decode cc pc = .ok (.invokespecial index, 3))
    (k : ∀ cs : Nat → va_E, post cs → Y p l e R s m args below meth c D ad nL (cn + mc) (sl + ms) Q (addc (hset h k0 (cs 0)) cs ns 1) (pc + 3) lv st) : Y p l e R s m args below meth c D ad nL cn sl Q h pc lv st0 := by
  intro H locs ls hz0 hh hs hl
  subst hst
  refine y_runI C hz0 hh hs hl hk0 hns hnd hnk hna (va_runIN (As := As) (rest := st) ⟨C.1, C.2.1, C.2.2.1, C.2.2.2.1, C.2.2.2.2.1⟩ hc ⟨va_cnB nn C.2.2.2.2.1 hG hw0 rfl rfl hlk (C.2.2.2.2.1 _ hini) hd2 hR, hyi, C.2.2.2.2.1 _ hins⟩ ⟨Cn.blind hPb, fun U hU hWm => ⟨rfl, by rw [hU]; exact hz0, by rw [hU]; exact (hh k0 _ hk0).2, va_K.moved hWm.alike C.2.2.2.2.2.2.2.1, hPs U hWm⟩⟩ rfl hn hl.1 rfl (by show 2 * 0 + _ ≤ 8; omega) hd hRc) k
end YK
