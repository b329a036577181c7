/-! THE REFERENCE'S CELLS, by names: 0 the object, n the array of field n. ρ n k: element k of the array n; ρ 0 k: field k. -/
abbrev refF (ad : Nat → Nat) (f : Nat → Int) : List Value := [vi (f 0), vi (f 1), vi (f 2), vi (f 3), .ref (ad 4), .ref (ad 5), .ref (ad 6), .ref (ad 7), .ref (ad 8), .ref (ad 9), .ref (ad 10), .ref (ad 11), .ref (ad 12), .ref (ad 13), .ref (ad 14), .ref (ad 15), .ref (ad 16), .ref (ad 17), .ref (ad 18), .ref (ad 19), .ref (ad 20), .ref (ad 21), vi (f 22), vi (f 23), .ref (ad 24), .ref (ad 25), .ref (ad 26), .ref (ad 27), .ref (ad 28), vi (f 29), vi (f 30), vi (f 31), vi (f 32)]
def rc (D : va_G) (ad : Nat → Nat) (ρ : St) : HM := fun n => match n with
  | 0 => some (.inr (6, refF ad (ρ 0)))
  | 4 => some (.inl (D.1 10, 2048, .inl (fun j => iI (ρ 4 j))))
  | 5 => some (.inl (D.1 10, 2048, .inl (fun j => iI (ρ 5 j))))
  | 6 => some (.inl (D.1 12, 24, .inl (fun j => iI (ρ 6 j))))
  | 7 => some (.inl (D.1 10, 24, .inl (fun j => iI (ρ 7 j))))
  | 8 => some (.inl (D.1 10, 24, .inl (fun j => iI (ρ 8 j))))
  | 9 => some (.inl (D.1 10, 24, .inl (fun j => iI (ρ 9 j))))
  | 10 => some (.inl (D.1 10, 24, .inl (fun j => iI (ρ 10 j))))
  | 11 => some (.inl (D.1 12, 24, .inl (fun j => iI (ρ 11 j))))
  | 12 => some (.inl (D.1 10, 12, .inl (fun j => iI (ρ 12 j))))
  | 13 => some (.inl (D.1 10, 12, .inl (fun j => iI (ρ 13 j))))
  | 14 => some (.inl (D.1 10, 12, .inl (fun j => iI (ρ 14 j))))
  | 15 => some (.inl (D.1 10, 12, .inl (fun j => iI (ρ 15 j))))
  | 16 => some (.inl (D.1 10, 12, .inl (fun j => iI (ρ 16 j))))
  | 17 => some (.inl (D.1 11, 12, .inr (.inl (fun j => lI (ρ 17 j)))))
  | 18 => some (.inl (D.1 10, 12, .inl (fun j => iI (ρ 18 j))))
  | 19 => some (.inl (D.1 10, 12, .inl (fun j => iI (ρ 19 j))))
  | 20 => some (.inl (D.1 10, 12, .inl (fun j => iI (ρ 20 j))))
  | 21 => some (.inl (D.1 10, 13, .inl (fun j => iI (ρ 21 j))))
  | 24 => some (.inl (D.1 10, 4200, .inl (fun j => iI (ρ 24 j))))
  | 25 => some (.inl (D.1 10, 2100, .inl (fun j => iI (ρ 25 j))))
  | 26 => some (.inl (D.1 10, 4200, .inl (fun j => iI (ρ 26 j))))
  | 27 => some (.inl (D.1 10, 2100, .inl (fun j => iI (ρ 27 j))))
  | 28 => some (.inl (D.1 10, 2100, .inl (fun j => iI (ρ 28 j))))
  | _ => none
section RC
variable {D : va_G} {ad : Nat → Nat} {ρ ρ' : St}
set_option maxHeartbeats 4000000 in
theorem rc_ext {n : Nat} (h : ρ' n = ρ n) : rc D ad ρ' n = rc D ad ρ n := by
  unfold rc
  split <;> simp only [h]
theorem rset {n : Nat} {x : va_E} (h1 : ∀ q, q ≠ n → ρ' q = ρ q) (h2 : rc D ad ρ' n = some x) : hset (rc D ad ρ) n x = rc D ad ρ' := by
  funext q
  by_cases hq : q = n
  · subst hq; rw [hset_s, h2]
  · rw [hset_n hq, rc_ext (h1 q hq)]
def rsc (k : Nat) : Bool := k == 22 || k == 23 || k == 29 || k == 30 || k == 31 || k == 32
set_option maxHeartbeats 4000000 in
theorem refF_set (f : Nat → Int) {k : Nat} (hk : rsc k = true) (z : Int) : (refF ad f).set k (vi z) = refF ad (zup f k z) := by
  have hk : k = 22 ∨ k = 23 ∨ k = 29 ∨ k = 30 ∨ k = 31 ∨ k = 32 := by simpa [rsc, or_assoc] using hk
  rcases hk with rfl | rfl | rfl | rfl | rfl | rfl <;> simp [zup]
end RC
section RR
variable {p : Program} {l : Launch} {e : Env} {R : Room} {s : State} {m : MethodId} {args : Array Value} {below : List Frame} {meth : Method} {c : Code} {D : va_G} {ad : Nat → Nat} {cc : ByteArray} {nL : Nat} {ret : Option FieldType} {own : String} {Q : State → Prop} {pc : Nat} {lv : List (Nat × Value)} {st : List Value} {ρ : St} {h : HM}
theorem x_zast {Ts : List Cond} (C : Fx p s m args meth c D ad cc nL ret own Ts) {n N : Nat} {f : Nat → Int} {z w : Int} (hd : decode cc pc = .ok (.bastore, 1)) (he : h n = some (.inl (D.1 12, N, .inl (fun j => iI (f j))))) (hz : 0 ≤ z ∧ z < N) (hN : N ≤ 2147483647) (hw : w = 0 ∨ w = 1) (k : X p l e R s m args below meth c D ad nL Q (hset h n (.inl (D.1 12, N, .inl (fun j => iI (zup f z.toNat w j))))) (pc + 1) lv st) : X p l e R s m args below meth c D ad nL Q h pc lv (vi w :: vi z :: .ref (ad n) :: st) := by
  intro H locs ls hh hs hl
  have hn0 := hh n _ he
  have hin : vp_in (iI z) N := iI_in hz hN
  have hc : H[ad n]? = some (vp_cell (D.1 12) (N, .inl (fun j => iI (f j)))) := hn0.2
  have hnw : narrow .boolean (.int (iI w)) = .int (iI w) := by rcases hw with rfl | rfl <;> decide
  refine W.zast C.1 C.2.1 hc ((C.2.2.2.2.2.2.2.1.2 2 (D.1 12, .boolean) rfl).1 N (fun j => .int (iI (f j)))) (fun q => by cases q) (by show ¬ (iI z < 0 ∨ (arrV _ _ _).slots.size ≤ _); rw [arrV_size]; exact hin) rfl rfl hd fun H1 e1 z1 oq => ?_
  rw [hnw] at e1
  refine k H1 _ ls (hh.set C.2.2.2.2.2.2.2.2 he ?_ oq) (hs.put z1 oq ⟨n, hn0.1, rfl⟩) hl
  show H1[ad n]? = some (vp_cell _ _)
  rw [e1, vp_cell_i, vp_cell_i, arrV_store, iI_cl ⟨hz.1, by omega⟩]
  congr 2
  funext q
  by_cases hq : q = z.toNat
  · subst hq; simp [updV, zup]
  · simp [updV, zup, hq]
theorem r_put (C : Fx p s m args meth c D ad cc nL ret own tb) {index : Nat} {z : Int} (kf : Nat) (hr : rsc kf = true) (hk : kf < 33) (hd : decode cc pc = .ok (.putfield index, 3)) (hlink : Cond.fieldLink own index (TX6 kf).1 (TX6 kf).2.1 (TX6 kf).2.2.1 ∈ tb) (hfin : (TX6 kf).2.2.2 = false) (hdt : parseFieldDescriptor (TX6 kf).2.2.1 = some .int) (k : X p l e R s m args below meth c D ad nL Q (rc D ad (up ρ 0 kf z)) (pc + 3) lv st) : X p l e R s m args below meth c D ad nL Q (rc D ad ρ) pc lv (vi z :: .ref (ad 0) :: st) :=
  x_put C (Cn := RX6) (T := TX6) (N := 33) (ci := 6) kf hd m_w_6 hlink rfl hk tyX6 tyX6_ok nmX6 hfin hdt rfl rfl (by simpa using hk) (fs := refF ad (ρ 0)) rfl (X.eqh (rset (ρ' := up ρ 0 kf z) (fun q hq => up_n hq) (by show some _ = _; rw [up_s, refF_set _ hr])) k)
theorem r_ast (C : Fx p s m args meth c D ad cc nL ret own tb) {n N : Nat} {z w : Int} (hd : decode cc pc = .ok (.iastore, 1)) (he : ∀ ρ : St, rc D ad ρ n = some (.inl (D.1 10, N, .inl (fun j => iI (ρ n j))))) (hz : 0 ≤ z ∧ z < N) (hN : N ≤ 2147483647) (k : X p l e R s m args below meth c D ad nL Q (rc D ad (up ρ n z.toNat w)) (pc + 1) lv st) : X p l e R s m args below meth c D ad nL Q (rc D ad ρ) pc lv (vi w :: vi z :: .ref (ad n) :: st) :=
  x_iast C hd (he ρ) hz hN (X.eqh (rset (ρ' := up ρ n z.toNat w) (fun q hq => up_n hq) (by rw [he, up_s])) k)
theorem r_astl (C : Fx p s m args meth c D ad cc nL ret own tb) {n N : Nat} {z w : Int} (hd : decode cc pc = .ok (.lastore, 1)) (he : ∀ ρ : St, rc D ad ρ n = some (.inl (D.1 11, N, .inr (.inl (fun j => lI (ρ n j)))))) (hz : 0 ≤ z ∧ z < N) (hN : N ≤ 2147483647) (k : X p l e R s m args below meth c D ad nL Q (rc D ad (up ρ n z.toNat w)) (pc + 1) lv st) : X p l e R s m args below meth c D ad nL Q (rc D ad ρ) pc lv (vl w :: vi z :: .ref (ad n) :: st) :=
  x_last C hd (he ρ) hz hN (X.eqh (rset (ρ' := up ρ n z.toNat w) (fun q hq => up_n hq) (by rw [he, up_s])) k)
theorem r_astz (C : Fx p s m args meth c D ad cc nL ret own tb) {n N : Nat} {z w : Int} (hd : decode cc pc = .ok (.bastore, 1)) (he : ∀ ρ : St, rc D ad ρ n = some (.inl (D.1 12, N, .inl (fun j => iI (ρ n j))))) (hz : 0 ≤ z ∧ z < N) (hN : N ≤ 2147483647) (hw : w = 0 ∨ w = 1) (k : X p l e R s m args below meth c D ad nL Q (rc D ad (up ρ n z.toNat w)) (pc + 1) lv st) : X p l e R s m args below meth c D ad nL Q (rc D ad ρ) pc lv (vi w :: vi z :: .ref (ad n) :: st) :=
  x_zast C hd (he ρ) hz hN hw (X.eqh (rset (ρ' := up ρ n z.toNat w) (fun q hq => up_n hq) (by rw [he, up_s])) k)
end RR
/-- the contract of a method of the reference: from the state ρ with these arguments -/
def Rt (l : Launch) (D : va_G) (ad : Nat → Nat) (y : MethodName) (ws : List Cond) (fr lo : Nat) (av : List Value) (ρ : St) (post : Option Value → St → Prop) : Prop :=
  Ct l y ws fr lo D ad av (rc D ad ρ) (fun v h1 => ∃ ρ' : St, h1 = rc D ad ρ' ∧ post v ρ')
