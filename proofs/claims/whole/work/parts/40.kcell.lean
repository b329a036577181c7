/-! THE CLASS'S CELLS, by names: 0 kernel, 1 memory, 2 limbs, 3 freeOf, 4 freeAt, 5 reckoner, 6 numerals, 7 jobs, 8 queue, 9 ring, 10 + h numeral h, 40 + j job j. σ n k: field or element k of cell n. -/
abbrev St : Type := Nat → Nat → Int
def up (σ : St) (n k : Nat) (z : Int) : St := fun a => if a = n then zup (σ n) k z else σ a
theorem up_s (σ : St) (n k : Nat) (z : Int) : up σ n k z n = zup (σ n) k z := by simp [up]
theorem up_n {σ : St} {n k q : Nat} {z : Int} (h : q ≠ n) : up σ n k z q = σ q := by simp [up, h]
abbrev numF (f : Nat → Int) : List Value := [vi (f 0), vi (f 1), vi (f 2), vi (f 3), vi (f 4), vi (f 5)]
abbrev jobF (f : Nat → Int) : List Value := [vi (f 0), vi (f 1), vi (f 2), vi (f 3), vi (f 4), vi (f 5), vi (f 6), vi (f 7), vi (f 8), vi (f 9), vl (f 10)]
/-- g has the sizes: g.1 poolLog, g.2.1 pool, g.2.2.1 most handles, g.2.2.2 most jobs -/
def kc (D : va_G) (ad : Nat → Nat) (g : Nat × Nat × Nat × Nat) (σ : St) : HM := fun n => match n with
  | 0 => some (.inr (5, [.ref (ad 1), .ref (ad 5), .ref (ad 6), .ref (ad 7), .ref (ad 8), vi (σ 0 5), vi (σ 0 6), vi (σ 0 7), vi (σ 0 8)]))
  | 1 => some (.inr (1, [vi (g.1 : Int), .ref (ad 2), .ref (ad 3), .ref (ad 4)]))
  | 2 => some (.inl (D.1 10, g.2.1, .inl (fun j => iI (σ 2 j))))
  | 3 => some (.inl (D.1 10, g.1 + 1, .inl (fun j => iI (σ 3 j))))
  | 4 => some (.inl (D.1 10, g.2.1, .inl (fun j => iI (σ 4 j))))
  | 5 => some (.inr (4, [.ref (ad 2), vi (σ 5 1), vi (σ 5 2), vi (σ 5 3), vl (σ 5 4), vl (σ 5 5)]))
  | 6 => some (.inl (D.1 14, g.2.2.1, .inr (.inr (.inr (.inr (fun j => some (ad (10 + j))))))))
  | 7 => some (.inl (D.1 13, g.2.2.2, .inr (.inr (.inr (.inr (fun j => some (ad (40 + j))))))))
  | 8 => some (.inr (3, [.ref (ad 9), vi (σ 8 1), vi (σ 8 2)]))
  | 9 => some (.inl (D.1 10, g.2.2.2, .inl (fun j => iI (σ 9 j))))
  | n => if 10 ≤ n ∧ n < 10 + g.2.2.1 then some (.inr (2, numF (σ n))) else if 40 ≤ n ∧ n < 40 + g.2.2.2 then some (.inr (0, jobF (σ n))) else none
section KC
variable {D : va_G} {ad : Nat → Nat} {g : Nat × Nat × Nat × Nat} {σ σ' : St}
theorem kc_hi {n : Nat} (h : 10 ≤ n) : kc D ad g σ n = if 10 ≤ n ∧ n < 10 + g.2.2.1 then some (.inr (2, numF (σ n))) else if 40 ≤ n ∧ n < 40 + g.2.2.2 then some (.inr (0, jobF (σ n))) else none := by
  unfold kc
  split <;> first | omega | rfl
theorem kc_num {i : Nat} (h : i < g.2.2.1) : kc D ad g σ (10 + i) = some (.inr (2, numF (σ (10 + i)))) := by
  rw [kc_hi (by omega), if_pos (by omega)]
theorem kc_job {j : Nat} (hH : g.2.2.1 ≤ 24) (h : j < g.2.2.2) : kc D ad g σ (40 + j) = some (.inr (0, jobF (σ (40 + j)))) := by
  rw [kc_hi (by omega), if_neg (by omega), if_pos (by omega)]
theorem kc_ext {n : Nat} (h : σ' n = σ n) : kc D ad g σ' n = kc D ad g σ n := by
  by_cases hn : 10 ≤ n
  · rw [kc_hi hn, kc_hi hn, h]
  · rcases (show n = 0 ∨ n = 1 ∨ n = 2 ∨ n = 3 ∨ n = 4 ∨ n = 5 ∨ n = 6 ∨ n = 7 ∨ n = 8 ∨ n = 9 by omega) with rfl | rfl | rfl | rfl | rfl | rfl | rfl | rfl | rfl | rfl <;> simp [kc, h]
theorem kset {n : Nat} {x : va_E} (h1 : ∀ q, q ≠ n → σ' q = σ q) (h2 : kc D ad g σ' n = some x) : hset (kc D ad g σ) n x = kc D ad g σ' := by
  funext q
  by_cases hq : q = n
  · subst hq; rw [hset_s, h2]
  · rw [hset_n hq, kc_ext (h1 q hq)]
theorem numF_set (f : Nat → Int) {k : Nat} (hk : k < 6) (z : Int) : (numF f).set k (vi z) = numF (zup f k z) := by
  rcases (show k = 0 ∨ k = 1 ∨ k = 2 ∨ k = 3 ∨ k = 4 ∨ k = 5 by omega) with rfl | rfl | rfl | rfl | rfl | rfl <;> simp [zup]
theorem jobF_set (f : Nat → Int) {k : Nat} (hk : k < 10) (z : Int) : (jobF f).set k (vi z) = jobF (zup f k z) := by
  rcases (show k = 0 ∨ k = 1 ∨ k = 2 ∨ k = 3 ∨ k = 4 ∨ k = 5 ∨ k = 6 ∨ k = 7 ∨ k = 8 ∨ k = 9 by omega) with rfl | rfl | rfl | rfl | rfl | rfl | rfl | rfl | rfl | rfl <;> simp [zup]
theorem jobF_setl (f : Nat → Int) (z : Int) : (jobF f).set 10 (vl z) = jobF (zup f 10 z) := by simp [zup]
end KC
section KR
variable {p : Program} {l : Launch} {e : Env} {R : Room} {s : State} {m : MethodId} {args : Array Value} {below : List Frame} {meth : Method} {c : Code} {D : va_G} {ad : Nat → Nat} {cc : ByteArray} {nL : Nat} {ret : Option FieldType} {own : String} {Q : State → Prop} {pc : Nat} {lv : List (Nat × Value)} {st : List Value} {g : Nat × Nat × Nat × Nat} {σ : St}
/-- a field of a numeral is written (0, 1: booleans) -/
theorem k_putN (C : Fx p s m args meth c D ad cc nL ret own tb) {index i : Nat} {z : Int} {ty : FieldType} (kf : Nat) (hk : kf < 6) (hd : decode cc pc = .ok (.putfield index, 3)) (hlink : Cond.fieldLink own index (TX2 kf).1 (TX2 kf).2.1 (TX2 kf).2.2.1 ∈ tb) (hfin : (TX2 kf).2.2.2 = false) (hdt : parseFieldDescriptor (TX2 kf).2.2.1 = some ty) (hn : narrow ty (vi z) = vi z) (hfit : fits ty (vi z) = true) (hi : i < g.2.2.1) (k : X p l e R s m args below meth c D ad nL Q (kc D ad g (up σ (10 + i) kf z)) (pc + 3) lv st) : X p l e R s m args below meth c D ad nL Q (kc D ad g σ) pc lv (vi z :: .ref (ad (10 + i)) :: st) :=
  x_put C (Cn := RX2) (T := TX2) (N := 6) (ci := 2) kf hd m_w_2 hlink rfl hk tyX2 tyX2_ok nmX2 hfin hdt hn hfit (by simpa using hk) (kc_num hi) (X.eqh (kset (σ' := up σ (10 + i) kf z) (fun q hq => up_n hq) (by rw [kc_num hi, up_s, numF_set _ hk])) k)
theorem k_putJ (C : Fx p s m args meth c D ad cc nL ret own tb) {index j : Nat} {z : Int} (kf : Nat) (hk : kf < 10) (hd : decode cc pc = .ok (.putfield index, 3)) (hlink : Cond.fieldLink own index (TX0 kf).1 (TX0 kf).2.1 (TX0 kf).2.2.1 ∈ tb) (hfin : (TX0 kf).2.2.2 = false) (hdt : parseFieldDescriptor (TX0 kf).2.2.1 = some .int) (hH : g.2.2.1 ≤ 24) (hj : j < g.2.2.2) (k : X p l e R s m args below meth c D ad nL Q (kc D ad g (up σ (40 + j) kf z)) (pc + 3) lv st) : X p l e R s m args below meth c D ad nL Q (kc D ad g σ) pc lv (vi z :: .ref (ad (40 + j)) :: st) :=
  x_put C (Cn := RX0) (T := TX0) (N := 11) (ci := 0) kf hd m_w_0 hlink rfl (by omega) tyX0 tyX0_ok nmX0 hfin hdt rfl rfl (by simp; omega) (kc_job hH hj) (X.eqh (kset (σ' := up σ (40 + j) kf z) (fun q hq => up_n hq) (by rw [kc_job hH hj, up_s, jobF_set _ hk])) k)
theorem k_putJl (C : Fx p s m args meth c D ad cc nL ret own tb) {index j : Nat} {z : Int} (hd : decode cc pc = .ok (.putfield index, 3)) (hlink : Cond.fieldLink own index (TX0 10).1 (TX0 10).2.1 (TX0 10).2.2.1 ∈ tb) (hH : g.2.2.1 ≤ 24) (hj : j < g.2.2.2) (k : X p l e R s m args below meth c D ad nL Q (kc D ad g (up σ (40 + j) 10 z)) (pc + 3) lv st) : X p l e R s m args below meth c D ad nL Q (kc D ad g σ) pc lv (vl z :: .ref (ad (40 + j)) :: st) :=
  x_put C (Cn := RX0) (T := TX0) (N := 11) (ci := 0) 10 hd m_w_0 hlink rfl (by omega) tyX0 tyX0_ok nmX0 rfl (ty := .long) (by decide +kernel) rfl rfl (by simp) (kc_job hH hj) (X.eqh (kset (σ' := up σ (40 + j) 10 z) (fun q hq => up_n hq) (by rw [kc_job hH hj, up_s, jobF_setl])) k)
/-- a field of a cell 0, 5, 8 -/
theorem k_putS (C : Fx p s m args meth c D ad cc nL ret own tb) {Cn : String} {T : u_T} {N ci index n : Nat} {fs : List Value} {z : Int} {ty : FieldType} (kf : Nat) (hd : decode cc pc = .ok (.putfield index, 3)) (hin : ∀ w ∈ u_ws Cn T N, w ∈ tb) (hlink : Cond.fieldLink own index (T kf).1 (T kf).2.1 (T kf).2.2.1 ∈ tb) (hc : vwCl[ci]? = some (Cn, T, N)) (hk : kf < N) (ty0 : Nat → FieldType) (hty : ∀ k, k < N → parseFieldDescriptor (T k).2.2.1 = some (ty0 k)) (hnm : ∀ a, a < N → ∀ b, b < N → a ≠ b → (T a).2.1 ≠ (T b).2.1) (hfin : (T kf).2.2.2 = false) (hdt : parseFieldDescriptor (T kf).2.2.1 = some ty) (hn : narrow ty (vi z) = vi z) (hfit : fits ty (vi z) = true) (he : kc D ad g σ n = some (.inr (ci, fs))) (hlen : kf < fs.length) (he' : kc D ad g (up σ n kf z) n = some (.inr (ci, fs.set kf (vi z)))) (k : X p l e R s m args below meth c D ad nL Q (kc D ad g (up σ n kf z)) (pc + 3) lv st) : X p l e R s m args below meth c D ad nL Q (kc D ad g σ) pc lv (vi z :: .ref (ad n) :: st) :=
  x_put C kf hd hin hlink hc hk ty0 hty hnm hfin hdt hn hfit hlen he (X.eqh (kset (σ' := up σ n kf z) (fun q hq => up_n hq) he') k)
theorem k_putSl (C : Fx p s m args meth c D ad cc nL ret own tb) {Cn : String} {T : u_T} {N ci index n : Nat} {fs : List Value} {z : Int} {ty : FieldType} (kf : Nat) (hd : decode cc pc = .ok (.putfield index, 3)) (hin : ∀ w ∈ u_ws Cn T N, w ∈ tb) (hlink : Cond.fieldLink own index (T kf).1 (T kf).2.1 (T kf).2.2.1 ∈ tb) (hc : vwCl[ci]? = some (Cn, T, N)) (hk : kf < N) (ty0 : Nat → FieldType) (hty : ∀ k, k < N → parseFieldDescriptor (T k).2.2.1 = some (ty0 k)) (hnm : ∀ a, a < N → ∀ b, b < N → a ≠ b → (T a).2.1 ≠ (T b).2.1) (hfin : (T kf).2.2.2 = false) (hdt : parseFieldDescriptor (T kf).2.2.1 = some ty) (hn : narrow ty (vl z) = vl z) (hfit : fits ty (vl z) = true) (he : kc D ad g σ n = some (.inr (ci, fs))) (hlen : kf < fs.length) (he' : kc D ad g (up σ n kf z) n = some (.inr (ci, fs.set kf (vl z)))) (k : X p l e R s m args below meth c D ad nL Q (kc D ad g (up σ n kf z)) (pc + 3) lv st) : X p l e R s m args below meth c D ad nL Q (kc D ad g σ) pc lv (vl z :: .ref (ad n) :: st) :=
  x_put C kf hd hin hlink hc hk ty0 hty hnm hfin hdt hn hfit hlen he (X.eqh (kset (σ' := up σ n kf z) (fun q hq => up_n hq) he') k)
/-- an element of an int array 2, 3, 4, 9 -/
theorem k_ast (C : Fx p s m args meth c D ad cc nL ret own tb) {n N : Nat} {z w : Int} (hd : decode cc pc = .ok (.iastore, 1)) (he : ∀ σ : St, kc D ad g σ n = some (.inl (D.1 10, N, .inl (fun j => iI (σ n j))))) (hz : 0 ≤ z ∧ z < N) (hN : N ≤ 2147483647) (k : X p l e R s m args below meth c D ad nL Q (kc D ad g (up σ n z.toNat w)) (pc + 1) lv st) : X p l e R s m args below meth c D ad nL Q (kc D ad g σ) pc lv (vi w :: vi z :: .ref (ad n) :: st) :=
  x_iast C hd (he σ) hz hN (X.eqh (kset (σ' := up σ n z.toNat w) (fun q hq => up_n hq) (by rw [he, up_s])) k)
end KR
/-- the contract of a method of the class: from the state σ with these arguments -/
def Kt (l : Launch) (D : va_G) (ad : Nat → Nat) (g : Nat × Nat × Nat × Nat) (y : MethodName) (ws : List Cond) (fr lo : Nat) (av : List Value) (σ : St) (post : Option Value → St → Prop) : Prop :=
  Ct l y ws fr lo D ad av (kc D ad g σ) (fun v h1 => ∃ σ' : St, h1 = kc D ad g σ' ∧ post v σ')
