/-! MEMBERS of the library that the kit knows: Math.max, Math.min, System.arraycopy (within one int array) -/
section LB
variable {p : Program} {l : Launch} {e : Env} {R : Room} {s : State} {m : MethodId} {args : Array Value} {below : List Frame} {meth : Method} {c : Code} {D : va_G} {ad : Nat → Nat} {cc : ByteArray} {nL : Nat} {ret : Option FieldType} {own : String} {Q : State → Prop} {h : HM} {pc : Nat} {lv : List (Nat × Value)} {st : List Value}
theorem x_mmax (C : Fx p s m args meth c D ad cc nL ret own tb) {index : Nat} {a b : Int} (hd : decode cc pc = .ok (.invokestatic index, 3)) (hlink : Cond.methodLink own index Lib.Math.max.name ∈ tb) (ha : -2147483648 ≤ a ∧ a < 2147483648) (hb : -2147483648 ≤ b ∧ b < 2147483648) (hfr : 1 ≤ R.frames) (hlo : (st.map fun v => v.category).sum + 13 ≤ R.locals) (k : X p l e R s m args below meth c D ad nL Q h (pc + 3) lv (vi (max a b) :: st)) : X p l e R s m args below meth c D ad nL Q h pc lv (vi b :: vi a :: st) :=
  fun H locs ls hh hs hl => va_mmax C.1 C.2.1 (by rw [C.2.2.1, hl.1]) C.2.2.2.1 (C.2.2.2.2.1 _ hlink) (C.2.2.2.2.1 _ m_s_yJ9_max_7cf53) (C.2.2.2.2.1 _ m_n_RJ9) (C.2.2.2.2.1 _ m_c_yJ9_max_7cf53) hfr hlo (Nat.zero_le _) (Nat.zero_le _) hd (by
    have e1 : (if iI a < iI b then iI b else iI a) = iI (max a b) := by
      by_cases q : a < b
      · rw [if_pos ((iI_lt ha hb).mpr q), show max a b = b by omega]
      · rw [if_neg (fun z => q ((iI_lt ha hb).mp z)), show max a b = a by omega]
    rw [e1]; exact k H locs ls hh hs hl)
theorem x_mmin (C : Fx p s m args meth c D ad cc nL ret own tb) {index : Nat} {a b : Int} (hd : decode cc pc = .ok (.invokestatic index, 3)) (hlink : Cond.methodLink own index Lib.Math.min.name ∈ tb) (ha : -2147483648 ≤ a ∧ a < 2147483648) (hb : -2147483648 ≤ b ∧ b < 2147483648) (hfr : 1 ≤ R.frames) (hlo : (st.map fun v => v.category).sum + 13 ≤ R.locals) (k : X p l e R s m args below meth c D ad nL Q h (pc + 3) lv (vi (min a b) :: st)) : X p l e R s m args below meth c D ad nL Q h pc lv (vi b :: vi a :: st) :=
  fun H locs ls hh hs hl => va_mmin C.1 C.2.1 (by rw [C.2.2.1, hl.1]) C.2.2.2.1 (C.2.2.2.2.1 _ hlink) (C.2.2.2.2.1 _ m_s_yJ9_min_7cf53) (C.2.2.2.2.1 _ m_n_RJ9) (C.2.2.2.2.1 _ m_c_yJ9_min_7cf53) hfr hlo (Nat.zero_le _) (Nat.zero_le _) hd (by
    have e1 : (if iI b < iI a then iI b else iI a) = iI (min a b) := by
      by_cases q : b < a
      · rw [if_pos ((iI_lt hb ha).mpr q), show min a b = b by omega]
      · rw [if_neg (fun z => q ((iI_lt hb ha).mp z)), show min a b = a by omega]
    rw [e1]; exact k H locs ls hh hs hl)
theorem x_mmaxl (C : Fx p s m args meth c D ad cc nL ret own tb) {index : Nat} {a b : Int} (hd : decode cc pc = .ok (.invokestatic index, 3)) (hlink : Cond.methodLink own index Lib.MathLoose.max_long.x ∈ tb) (ha : -9223372036854775808 ≤ a ∧ a < 9223372036854775808) (hb : -9223372036854775808 ≤ b ∧ b < 9223372036854775808) (hfr : 1 ≤ R.frames) (hlo : (st.map fun v => v.category).sum + 15 ≤ R.locals) (k : X p l e R s m args below meth c D ad nL Q h (pc + 3) lv (vl (max a b) :: st)) : X p l e R s m args below meth c D ad nL Q h pc lv (vl b :: vl a :: st) :=
  fun H locs ls hh hs hl => va_mmax_long C.1 C.2.1 (by rw [C.2.2.1, hl.1]) C.2.2.2.1 (C.2.2.2.2.1 _ hlink) (C.2.2.2.2.1 _ m_s_yJ9_max_f86c9) (C.2.2.2.2.1 _ m_n_RJ9) (C.2.2.2.2.1 _ m_c_yJ9_max_f86c9) hfr hlo (Nat.zero_le _) (Nat.zero_le _) hd (by
    have e1 : (if lI b < lI a then lI a else lI b) = lI (max a b) := by
      by_cases q : b < a
      · rw [if_pos ((lI_lt hb ha).mpr q), show max a b = a by omega]
      · rw [if_neg (fun z => q ((lI_lt hb ha).mp z)), show max a b = b by omega]
    rw [e1]; exact k H locs ls hh hs hl)
/-- what a copy within one row makes of it -/
def cpF (f : Nat → Int) (sp dp n : Nat) : Nat → Int := fun k => if dp ≤ k ∧ k < dp + n then f (sp + (k - dp)) else f k
theorem x_copy (C : Fx p s m args meth c D ad cc nL ret own tb) {index na N : Nat} {f : Nat → Int} {sp dp n : Int} (hd : decode cc pc = .ok (.invokestatic index, 3)) (hlink : Cond.methodLink own index arraycopyName ∈ tb) (hnat : Cond.native arraycopyName ∈ tb) (hstat : Cond.static arraycopyName ∈ tb) (he : h na = some (.inl (D.1 10, N, .inl (fun j => iI (f j))))) (hN : N ≤ 65536) (h1 : 0 ≤ sp) (h2 : 0 ≤ dp) (h3 : 0 ≤ n) (h4 : sp + n ≤ N) (h5 : dp + n ≤ N) (hfr : 1 ≤ R.frames) (hlo : (st.map fun v => v.category).sum + (nativeFrameWords "java/lang/System" "arraycopy" 5 + 11) ≤ R.locals)
    (k : X p l e R s m args below meth c D ad nL Q (hset h na (.inl (D.1 10, N, .inl (fun j => iI (cpF f sp.toNat dp.toNat n.toNat j))))) (pc + 3) lv st) : X p l e R s m args below meth c D ad nL Q h pc lv (vi n :: vi dp :: .ref (ad na) :: vi sp :: .ref (ad na) :: st) := by
  intro H locs ls hh hs hl T hT Xx
  have hn0 := hh na _ he
  have hc0 : H[ad na]? = some (vp_cell (D.1 10) (N, .inl (fun j => iI (f j)))) := hn0.2
  have hK := C.2.2.2.2.2.2.2.1
  obtain ⟨-, k0, hk0, cm0, hkk0⟩ := (hK.2 0 (D.1 10, .int) rfl).1 N (fun j => .int (iI (f j)))
  have q1 : ¬ iI sp < 0 := fun z => by have := (iI_lt (show -2147483648 ≤ sp ∧ sp < 2147483648 by omega) i0R).mp z; omega
  have q2 : ¬ iI dp < 0 := fun z => by have := (iI_lt (show -2147483648 ≤ dp ∧ dp < 2147483648 by omega) i0R).mp z; omega
  have q3 : ¬ iI n < 0 := fun z => by have := (iI_lt (show -2147483648 ≤ n ∧ n < 2147483648 by omega) i0R).mp z; omega
  have c1 : (iI sp).toNatClampNeg = sp.toNat := iI_cl (by omega)
  have c2 : (iI dp).toNatClampNeg = dp.toNat := iI_cl (by omega)
  have c3 : (iI n).toNatClampNeg = n.toNat := iI_cl (by omega)
  obtain ⟨vm', X', step⟩ := Xx.arraycopy C.1 C.2.2.2.1 (C.2.2.2.2.1 _ hlink) (C.2.2.2.2.1 _ hnat) (C.2.2.2.2.1 _ hstat) (C.2.2.2.2.1 _ m_n_RJ10) (src := ad na) (dst := ad na) (cs := vp_cell (D.1 10) (N, .inl (fun j => iI (f j)))) (cd := vp_cell (D.1 10) (N, .inl (fun j => iI (f j)))) (srcPos := iI sp) (destPos := iI dp) (n := iI n) (by rw [hT]; exact hc0) (by rw [hT]; exact hc0)
    (fun _ h => by cases h) (fun _ h => by cases h) (fun h => by cases h) (fun h => by cases h) hk0 hk0 hkk0 hkk0 (by simp [refKind]) q1 q2 q3
    (by rw [iI_t (by omega), iI_t (by omega)]; show ¬ _ > ((arrV (D.1 10) N (fun j => .int (iI (f j)))).slots.size : Int); rw [arrV_size]; omega)
    (by rw [iI_t (by omega), iI_t (by omega)]; show ¬ _ > ((arrV (D.1 10) N (fun j => .int (iI (f j)))).slots.size : Int); rw [arrV_size]; omega)
    (fun vm₁ _ i hi => by
      rw [c3] at hi
      have ee : (vp_cell (D.1 10) (N, .inl (fun j => iI (f j)))).slots.getD ((iI sp).toNatClampNeg + i) .null = .int (iI (f ((iI sp).toNatClampNeg + i))) := by
        show (arrV (D.1 10) N (fun j => .int (iI (f j)))).slots.getD _ _ = _
        rw [Array.getD_eq_getD_getElem?, arrV_read _ _ (by rw [c1]; omega)]
        rfl
      refine ⟨?_, ?_⟩
      · rw [ee]; rfl
      · rw [ee]; exact trivial)
    (g := F0 m pc ls (.int (iI n) :: .int (iI dp) :: .ref (ad na) :: .int (iI sp) :: .ref (ad na) :: st)) rfl (by rw [C.2.2.1]; exact hl.1) (rest := st) rfl (by rw [C.2.1]; exact hd) hfr (by show 2 * 0 + _ + _ ≤ _; omega)
  have e1 : copied (vp_cell (D.1 10) (N, .inl (fun j => iI (f j)))) (vp_cell (D.1 10) (N, .inl (fun j => iI (f j)))) (iI sp) (iI dp) (iI n) = vp_cell (D.1 10) (N, .inl (fun j => iI (cpF f sp.toNat dp.toNat n.toNat j))) := by
    have : copied (vp_cell (D.1 10) (N, .inl (fun j => iI (f j)))) (vp_cell (D.1 10) (N, .inl (fun j => iI (f j)))) (iI sp) (iI dp) (iI n) = vp_cell (D.1 10) (N, .inl (va_cpy (fun j => iI (f j)) (fun j => iI (f j)) (iI sp).toNatClampNeg (iI dp).toNatClampNeg (iI n).toNatClampNeg)) := va_copied (fun z => .int z) (D.1 10) (D.1 10) (fun j => iI (f j)) (fun j => iI (f j)) (by rw [c1, c3]; omega)
    refine this.trans ?_
    rw [c1, c2, c3]
    have e2 : va_cpy (fun j => iI (f j)) (fun j => iI (f j)) sp.toNat dp.toNat n.toNat = fun j => iI (cpF f sp.toNat dp.toNat n.toNat j) := by
      funext j
      unfold va_cpy cpF
      split <;> rfl
    rw [e2]
  rw [e1] at X' step
  have hl' : ad na < H.size := (Array.getElem?_eq_some_iff.mp hc0).1
  have hheap : ((T.setVm vm').setCell (ad na) (vp_cell (D.1 10) (N, .inl (fun j => iI (cpF f sp.toNat dp.toNat n.toNat j))))).heap = H.setIfInBounds (ad na) (vp_cell (D.1 10) (N, .inl (fun j => iI (cpF f sp.toNat dp.toNat n.toNat j)))) := by rw [← hT]; rfl
  have oq : ∀ q : Nat, q ≠ ad na → (H.setIfInBounds (ad na) (vp_cell (D.1 10) (N, .inl (fun j => iI (cpF f sp.toNat dp.toNat n.toNat j)))))[q]? = H[q]? := fun q hq => by simp [Array.getElem?_setIfInBounds, Ne.symm hq]
  obtain ⟨t, a1, b1⟩ := k _ _ ls (hh.set C.2.2.2.2.2.2.2.2 he (show (H.setIfInBounds (ad na) _)[ad na]? = some _ by simp [Array.getElem?_setIfInBounds, hl']) oq) ⟨by simp; exact hs.1, fun q g1 g2 => by
      rw [oq q (fun e => g2 ⟨na, hn0.1, e⟩)]
      exact hs.2.1 q g1 g2, fun q hq => by
      rcases List.mem_append.mp hq with h | h
      · exact hs.2.2 q h
      · obtain ⟨z, -, hz⟩ := List.mem_map.mp h
        rw [← hz]
        exact ⟨na, hn0.1, rfl⟩⟩ hl _ hheap X'
  exact ⟨t, step t a1, b1⟩
end LB
