/-! REL IS KEPT: a job ends; a turn -/
section RL
variable {g : Nat × Nat × Nat × Nat} {σ σ' ρ ρ' : St} {q : List Int}
theorem room_eq2 {ρ1 : St} {j a b m : Nat} (hA : AG g.1 (σ 4) (ρ 5)) (hR : RRm σ ρ j) (hB : ∀ r : Nat, σ (40 + j) 8 = r → r < 2 ^ g.1) (hG : LVM g σ σ' j) (hL : LEV g ρ ρ1 q j a b m) : AG g.1 (σ' 4) (ρ1 5) := by
  have h5 := hL.more.2.2
  rcases hG with ⟨e8, e4⟩ | ⟨r, o, e8, e9, e4⟩
  · rcases h5 with ⟨-, e5⟩ | ⟨r', o', f1, f2, -⟩
    · rw [e5, e4]; exact hA
    · rcases hR with ⟨-, x⟩ | ⟨x, -⟩ <;> omega
  · rcases h5 with ⟨f, -⟩ | ⟨r', o', f1, f2, e5⟩
    · rcases hR with ⟨x, -⟩ | ⟨-, -, x⟩ <;> omega
    · obtain rfl : r = r' := by rcases hR with ⟨x, -⟩ | ⟨-, x, -⟩ <;> omega
      obtain rfl : o = o' := by rcases hR with ⟨x, -⟩ | ⟨-, -, x⟩ <;> omega
      rw [e4, e5]
      exact hA.jn (hB r e8)
theorem STL.ends {σc : St} {j r a b m : Nat} (hg : GG g) (hr : r < g.2.2.1) (ha : a < g.2.2.1) (hb : b < g.2.2.1) (hm : σc (40 + j) 1 = 3 → m < g.2.2.1) (hS : STL g σc σ' j r a b m) : σ' (10 + r) 1 = 0 ∧ σ' (40 + j) 5 = σc (40 + j) 5 ∧ σ' 2 = σc 2 ∧ ∀ k, σ' 0 k = σc 0 k := by
  obtain ⟨σ1, σ2, hc, hG, rfl⟩ := hS
  have hlo : ∀ n, n < 10 ∨ 34 ≤ n → σ1 n = σc n := fun n hn => hc.lo hg.2.2.2.2.2.1 ha hb hm hn
  refine ⟨?_, ?_, ?_, fun k => ?_⟩
  · rw [up_n (by omega), up_n (by omega), up_s, zup_s]
  · rw [up_s, zup_n (by decide), up_s, zup_n (by decide), up_n (by omega), up_n (by omega), hG.job (by decide), hlo _ (by omega)]
  · rw [up_n (by omega), up_n (by omega), up_n (by omega), up_n (by omega), hG.row (by decide) (by decide) (by omega), hlo 2 (by decide)]
  · rw [up_n (by omega), up_n (by omega), up_n (by omega), up_n (by omega), hG.row (by decide) (by decide) (by omega), hlo 0 (by decide)]
theorem REL.finish (h : REL g σ ρ q) (hI : IN g σ) (hg : GG g) (hnp : g.2.1 = 2 ^ g.1) {j a b m r Aa na Ab nb Am nm Ar nr : Nat} {w : Int} {σc : St} (hj : j < g.2.2.2) (hs : σ (40 + j) 0 = 1) (hT : RKP g σ j a b m r Aa na Ab nb Am nm Ar nr) (ho : 0 ≤ σ (40 + j) 1 ∧ σ (40 + j) 1 ≤ 3) (hK : RKQ g (up σ (40 + j) 10 w) σc j Aa na Ab nb Am nm Ar nr) (hS : STL g σc σ' j r a b m)
    {a' b' m' r' Aa' na' Ab' nb' Am' nm' Ar' nr' : Nat} {ρw ρc : St} (hw : ∀ n, n ≠ 0 → n ≠ 17 → ρw n = ρ n) (hw0 : ∀ k, ρw 0 k = ρ 0 k) (hw17 : ∀ i, i ≠ j → ρw 17 i = ρ 17 i) (hT' : RKr ρ j a' b' m' r' Aa' na' Ab' nb' Am' nm' Ar' nr') (hK' : RRP ρw ρc Ar' nr' (opV (ρ 13 j) (nv (ρ 4) Aa' na') (nv (ρ 4) Ab' nb') (nv (ρ 4) Am' nm'))) (hS' : LEV g (up (up (up (up ρc 11 r' 0) 10 r' 0) 17 j 0) 12 j 2) ρ' q j a' b' m') : REL g σ' ρ' (q.filter (fun x => !decide (x = (j : Int)))) := by
  have hq : qd σ j := Or.inr hs
  have hL := hI.finish hg hnp hj hs hT ho hK hS
  obtain ⟨vN, vF, vf, vP, vM, v2, ⟨vj0, vj8, vj10, -⟩, vJ, v0, -, vm⟩ := hL
  obtain ⟨b1, b2, b3⟩ := h.jb j hj (by omega)
  obtain ⟨d1, d2, d3, d4, -⟩ := b3 (by omega)
  obtain ⟨p2, p3, p5, ⟨la, ka, ka2, ka3⟩, ⟨lb, kb, kb2, kb3⟩, ⟨lr, kr, kr2, kr3⟩, hpos, pz, -, -, enr, hm, -, -⟩ := hT
  obtain ⟨ho', x18, x14, x15, hlt, ⟨A1, A2, A3⟩, ⟨B1, B2, B3⟩, ⟨H1, H2, H3⟩, hm', -⟩ := hT'
  obtain rfl : a = a' := by omega
  obtain rfl : b = b' := by omega
  obtain rfl : r = r' := by omega
  -- the operands
  obtain ⟨a0, b0, m0, sa, sb, sm, hJQ⟩ := hI.jq j hj hq
  obtain ⟨-, t2, t3, fa, fb, hmm, -, -, hst⟩ := hJQ
  obtain rfl : a = a0 := by omega
  obtain rfl : b = b0 := by omega
  have ur : σ (10 + r) 0 = 1 ∧ σ (10 + r) 1 = 1 := by
    rcases hst with ⟨c, -⟩ | ⟨-, ⟨r0, c5, -, c2, c3, -⟩, -⟩
    · omega
    · obtain rfl : r = r0 := by omega
      exact ⟨c2, c3⟩
  have Na := h.nm a la fa.2.1
  have Nb := h.nm b lb fb.2.1
  have Nr := h.nm r lr ur.1
  obtain rfl : Aa = Aa' := by have := Na.2.1; omega
  obtain rfl : na = na' := by have := Na.1; omega
  obtain rfl : Ab = Ab' := by have := Nb.2.1; omega
  obtain rfl : nb = nb' := by have := Nb.1; omega
  obtain rfl : Ar = Ar' := by have := Nr.2.1; omega
  obtain rfl : nr = nr' := by have := Nr.1; omega
  have hmlt : σc (40 + j) 1 = 3 → m < g.2.2.1 := fun e => by
    rw [hK.2.1 _ (by omega) (by omega), up_s, zup_n (by decide)] at e
    exact (hm e).2.1.1
  obtain ⟨s1, s5, s2, s0⟩ := hS.ends hg lr la lb hmlt
  -- the values
  have hval : nv (ρ' 4) Ar nr = nv (σ' 2) Ar nr := by
    have e4 : ρ' 4 = ρc 4 := by rw [hS'.row.1 4 (by decide) (by decide) (by decide) (by decide) (by decide), up_n (by decide), up_n (by decide), up_n (by decide), up_n (by decide)]
    rw [e4, hK'.2.2.1, s2, hK.2.2.2, d1, Na.nv ka ka2, Nb.nv kb kb2, up_s, zup_n (by decide), up_n (by omega)]
    by_cases c : σ (40 + j) 1 = 3
    · rcases hm' with ⟨-, y2, y3, y4, -⟩ | ⟨y, -⟩
      · obtain ⟨z1, ⟨z2, z3, z4, z5⟩, -⟩ := hm c
        obtain rfl : m = m' := by omega
        have um : σ (10 + m) 0 = 1 := by
          rcases hmm with ⟨-, t4, fm, -⟩ | ⟨t, -⟩
          · obtain rfl : m = m0 := by omega
            exact fm.2.1
          · exact absurd c t
        have Nm := h.nm m z2 um
        obtain rfl : Am = Am' := by have := Nm.2.1; omega
        obtain rfl : nm = nm' := by have := Nm.1; omega
        rw [Nm.nv z3 z4]
      · omega
    · unfold opV
      by_cases c0 : σ (40 + j) 1 = 0
      · rw [if_pos c0, if_pos c0]
      · rw [if_neg c0, if_neg c0]
        by_cases c1 : σ (40 + j) 1 = 1
        · rw [if_pos c1, if_pos c1]
        · rw [if_neg c1, if_neg c1, if_pos (by omega), if_pos (by omega)]
  -- the reference's rows
  obtain ⟨l1, l2, ⟨ρq, lq0, lq1, lQ⟩, l20⟩ := hS'.row
  obtain ⟨lp, l20i, -⟩ := hS'.more
  obtain ⟨c4, cL, -, cR, c0⟩ := hK'
  have R : ∀ n, n ≠ 0 → n ≠ 4 → n ≠ 5 → n ≠ 10 → n ≠ 11 → n ≠ 12 → n ≠ 17 → n ≠ 20 → n ≠ 21 → n ≠ 24 → n ≠ 25 → n ≠ 26 → n ≠ 27 → n ≠ 28 → ρ' n = ρ n := fun n n0 n4 n5 n10 n11 n12 n17 n20 n21 n24 n25 n26 n27 n28 => by
    rw [l1 n n0 n5 n10 n20 n21, up_n n12, up_n n17, up_n n10, up_n n11, cR n n0 n4 n24 n25 n26 n27 n28, hw n n0 n17]
  have R' : ∀ n, (n = 6 ∨ n = 7 ∨ n = 8 ∨ n = 9 ∨ (12 < n ∧ n < 17) ∨ n = 18 ∨ n = 19) → ρ' n = ρ n := fun n hn => R n (by omega) (by omega) (by omega) (by omega) (by omega) (by omega) (by omega) (by omega) (by omega) (by omega) (by omega) (by omega) (by omega) (by omega)
  have R0 : ∀ k, k < 22 ∨ k = 23 → ρ' 0 k = ρ 0 k := fun k hk => by rw [l2 k (by omega), up_n (by decide), up_n (by decide), up_n (by decide), up_n (by decide), c0 k (by omega), hw0 k]
  have R4 : ρ' 4 = ρc 4 := by rw [l1 4 (by decide) (by decide) (by decide) (by decide) (by decide), up_n (by decide), up_n (by decide), up_n (by decide), up_n (by decide)]
  have R11 : ρ' 11 = zup (ρ 11) r 0 := by rw [l1 11 (by decide) (by decide) (by decide) (by decide) (by decide), up_n (by decide), up_n (by decide), up_n (by decide), up_s, cR 11 (by decide) (by decide) (by decide) (by decide) (by decide) (by decide) (by decide), hw 11 (by decide) (by decide)]
  have R12 : ρ' 12 = zup (ρ 12) j 2 := by rw [l1 12 (by decide) (by decide) (by decide) (by decide) (by decide), up_s, up_n (by decide), up_n (by decide), up_n (by decide), cR 12 (by decide) (by decide) (by decide) (by decide) (by decide) (by decide) (by decide), hw 12 (by decide) (by decide)]
  have R17 : ∀ i, i ≠ j → ρ' 17 i = ρ 17 i := fun i hi => by rw [l1 17 (by decide) (by decide) (by decide) (by decide) (by decide), up_n (by decide), up_s, zup_n hi, up_n (by decide), up_n (by decide), cR 17 (by decide) (by decide) (by decide) (by decide) (by decide) (by decide) (by decide), hw17 i hi]
  have eW : ∀ n, n = 5 ∨ n = 13 ∨ n = 19 ∨ n = 20 → (up (up (up (up ρc 11 r 0) 10 r 0) 17 j 0) 12 j 2) n = ρ n := fun n hn => by rw [up_n (by omega), up_n (by omega), up_n (by omega), up_n (by omega), cR n (by omega) (by omega) (by omega) (by omega) (by omega) (by omega) (by omega), hw n (by omega) (by omega)]
  have R20 : ∀ i, i ≠ j → ρ' 20 i = ρ 20 i := fun i hi => by rw [l20i i hi, eW 20 (by omega)]
  have hAG : AG g.1 (σ' 4) (ρ' 5) := room_eq2 (ρ := up (up (up (up ρc 11 r 0) 10 r 0) 17 j 0) 12 j 2) (by rw [eW 5 (by omega)]; exact h.ag) (by unfold RRm at *; rw [eW 19 (by omega), eW 20 (by omega)]; exact b2) (fun r1 e => by
    rcases hI.rm hj with c | ⟨r2, o2, c1, -, hB, -⟩
    · omega
    · have := hB.lt.1; have : r1 = r2 := by omega
      omega) vm hS'
  have hpl : ∀ x : Nat, pl1 σ j x = (if a = x then 1 else 0) + (if b = x then 1 else 0) + (if ρ 13 j = 3 ∧ m' = x then 1 else 0) := fun x => by
    rw [pl1_at (m := m') hq p2 p3 (fun e => by rcases hm' with ⟨-, c, -⟩ | ⟨c, -⟩ <;> omega) x, d1]
  have hplr : pl1 σ j r = 0 := by
    have hf : ∀ x : Nat, (σ (40 + j) 2 = x ∨ σ (40 + j) 3 = x ∨ (σ (40 + j) 1 = 3 ∧ σ (40 + j) 4 = x)) → x ≠ r := fun x hx e => by
      obtain ⟨_, _, _, _, _, _, hJQ⟩ := hI.jq j hj hq
      have := (FN.pl hJQ hq hx).2.2.1
      rw [e] at this; omega
    unfold pl1
    rw [if_pos hq, if_neg (fun e => hf r (Or.inl e) rfl), if_neg (fun e => hf r (Or.inr (Or.inl e)) rfl), if_neg (fun e => hf r (Or.inr (Or.inr e)) rfl)]; rfl
  have R10 : ∀ x : Nat, ρ' 10 x = (if x = r then 0 else ρ 10 x) - pl1 σ j x := fun x => by
    rw [lp x, eW 13 (by omega), hpl x, up_n (by decide), up_n (by decide), up_s]
    by_cases c : x = r
    · rw [c, zup_s, if_pos rfl]
    · rw [zup_n c, if_neg c, up_n (by decide), cR 10 (by decide) (by decide) (by decide) (by decide) (by decide) (by decide) (by decide), hw 10 (by decide) (by decide)]
  have pr : σ' (10 + r) 5 = 0 := by
    have h1 := vP r lr
    have h2 := hI.pin r lr ur.1
    have h3 : pns σ r g.2.2.2 = 0 := by
      refine pns_0 (fun i hi => ?_)
      by_cases hqi : qd σ i
      · have hf : ∀ x : Nat, (σ (40 + i) 2 = x ∨ σ (40 + i) 3 = x ∨ (σ (40 + i) 1 = 3 ∧ σ (40 + i) 4 = x)) → x ≠ r := fun x hx e => by
          obtain ⟨_, _, _, _, _, _, hJQ⟩ := hI.jq i hi hqi
          have := (FN.pl hJQ hqi hx).2.2.1
          rw [e] at this; omega
        unfold pl1
        rw [if_pos hqi, if_neg (fun e => hf r (Or.inl e) rfl), if_neg (fun e => hf r (Or.inr (Or.inl e)) rfl), if_neg (fun e => hf r (Or.inr (Or.inr e)) rfl)]; rfl
      · exact pl1_no hqi
    omega
  have hcur : ∀ n, n ≠ 40 + j → n ≠ 2 → n ≠ 5 → σc n = σ n := fun n h1 h2 h3 => by rw [hK.2.1 n h2 h3, up_n h1]
  obtain ⟨e1, e2, e3, ⟨m1, m2, m3, m4⟩, ⟨q1, q2, q3⟩, -⟩ := h
  refine ⟨?_, hAG, ?_, ⟨?_, ?_, ?_, ?_⟩, ⟨?_, ?_, ?_⟩, lQ.row (by rw [lq0]) lq1⟩
  · unfold RS; rw [R0 0 (by omega), R0 1 (by omega), R0 2 (by omega), R0 3 (by omega), R0 23 (by omega), s0 5, s0 8, hcur 0 (by omega) (by decide) (by decide)]; exact e1
  · intro k hk; rw [R4]; exact cL k hk
  · intro y hy
    rw [R11]
    by_cases c : y = r
    · rw [c, zup_s]; exact Or.inl rfl
    · rw [zup_n c]; exact m1 y hy
  · intro y hy; rw [R' 6 (by omega), vN y 0 hy (by decide) (by decide)]; exact m2 y hy
  · rw [R' 6 (by omega)]; exact m3
  · intro y hy hu
    rw [vN y 0 hy (by decide) (by decide)] at hu
    obtain ⟨t1, t2, t3, t4, t5, t6⟩ := m4 y hy hu
    unfold RNm
    rw [vN y 2 hy (by decide) (by decide), vN y 3 hy (by decide) (by decide), vN y 4 hy (by decide) (by decide), R' 7 (by omega), R' 8 (by omega), R' 9 (by omega)]
    by_cases c : y = r
    · subst c
      refine ⟨t1, t2, t3, ?_, ?_, ?_⟩
      · rw [R10 y, if_pos rfl, hplr, pr]; rfl
      · rw [R11, zup_s, s1]
      · rw [kr, kr2, Int.toNat_natCast, Int.toNat_natCast]
        refine nv_inj (fun i hi => ?_) (fun i hi => ?_) hval
        · rw [R4]; exact cL _ (by omega)
        · exact vM _ (by omega)
    · have hne : σ (40 + j) 5 ≠ y := fun e => c (by omega)
      have f1 := vf y hy hne
      refine ⟨t1, t2, t3, ?_, ?_, fun i hi => ?_⟩
      · rw [R10 y, if_neg c]
        have := vP y hy
        omega
      · rw [R11, zup_n c, f1]; exact t5
      · rw [v2 y hy hu hne i hi, R4, c4, hw 4 (by decide) (by decide)]
        · exact t6 i hi
        · obtain ⟨Ay, ny, oy, g1, g2, g3, -, g5, -, -, -, g8⟩ := hI.num hnp hy hu
          obtain ⟨A', n', o', f1, f2, f3, -, f5, -, -, -, f8⟩ := hI.num hnp lr ur.1
          have hd := hI.hld.2 _ _ _ _ _ _ c g8 f8
          rw [g1, Int.toNat_natCast]
          rw [g2, Int.toNat_natCast] at hi
          unfold dsj at hd
          omega
  · intro i hi
    rw [R12]
    by_cases c : i = j
    · rw [c, zup_s, vj0]
    · rw [zup_n c, vJ i hi c]; exact q1 i hi
  · intro i h1 h2; rw [R12, zup_n (by omega)]; exact q2 i h1 h2
  · intro i hi hsi
    by_cases c : i = j
    · subst c
      refine ⟨?_, Or.inl ⟨vj8, l20⟩, fun e => by omega⟩
      rw [R' 18 (by omega), s5, hK.2.1 _ (by omega) (by omega), up_s, zup_n (by decide)]; exact b1
    · rw [vJ i hi c] at hsi
      refine (q3 i hi hsi).row (fun k => by rw [vJ i hi c]) (fun n n1 n2 => ?_)
      by_cases d : n = 17
      · rw [d]; exact R17 i c
      · by_cases d2 : n = 20
        · rw [d2]; exact R20 i c
        · rw [R' n (by omega)]
theorem filt_head {j : Nat} {q' : List Int} (h : ((j : Int) :: q').Nodup) : (((j : Int) :: q').filter (fun x => !decide (x = (j : Int)))) = q' := by
  have hn := (List.nodup_cons.mp h).1
  rw [List.filter_cons_of_neg (by simp)]
  rw [List.filter_eq_self]
  intro x hx
  simp only [Bool.not_eq_true', decide_eq_false_iff_not]
  exact fun e => hn (e ▸ hx)
/-- a turn: the same answer, and both states agree again -/
theorem REL.turn (h : REL g σ ρ q) (hI : INV g σ q) (hg : GG g) (hnp : g.2.1 = 2 ^ g.1) {r r' : Int} (hT : TT g σ σ' q r) (hR : TR g ρ ρ' q r') : r = r' ∧ ∃ q1, INV g σ' q1 ∧ REL g σ' ρ' q1 := by
  rcases hT with ⟨rfl, rfl, rfl⟩ | ⟨j, q', rfl, rfl, hj, hT⟩
  · rcases hR with ⟨-, rfl, rfl⟩ | ⟨j', q', e, -⟩
    · exact ⟨rfl, [], hI, h⟩
    · cases e
  rcases hR with ⟨e, -⟩ | ⟨j', q'', e, rfl, -, hR⟩
  · cases e
  obtain ⟨e1, e2⟩ := List.cons.inj e
  obtain rfl : j = j' := by omega
  subst e2
  refine ⟨rfl, ?_⟩
  have hKeep := hI.turn hg hnp hj hT
  have hI0 := hI
  obtain ⟨hIn, hQ, hK⟩ := hI
  obtain ⟨σa, hQa, a0, ar, hT⟩ := hT
  have hIa : IN g σa := hIn.same (fun n n0 _ n8 _ => ar n n0 n8) (by rw [a0, zup_n (by decide)]) (by rw [a0, zup_n (by decide)]) (by rw [a0, zup_n (by decide)])
  have eJ : ∀ k, σa (40 + k) = σ (40 + k) := fun k => ar _ (by omega) (by omega)
  have eN : ∀ k, σa (10 + k) = σ (10 + k) := fun k => ar _ (by omega) (by omega)
  have hst := h.st j hj
  have hA : REL g σa (up ρ 0 23 (ρ 0 23 + 1)) ((j : Int) :: q') := by
    refine h.queue (fun n n0 n8 _ => ar n n0 n8) (by rw [a0, zup_n (by decide)]) (fun n n0 _ => up_n n0) (fun k hk => by rw [up_s, zup_n (by omega)]) ?_ (h.ql.row (by rw [up_s, zup_n (by decide)]) (up_n (by decide)))
    rw [up_s, zup_s, a0, zup_s, h.1.2.2]
  have fin : ∀ (τ : St) (ρb : St) {q0 q1 : List Int}, REL g τ ρb q0 → (∀ k, k ≠ 8 → k ≠ 9 → σ' k = τ k) → (QL ρ' q1 ∧ ∀ n, n ≠ 21 → ρ' n = ρb n) → REL g σ' ρ' q1 := fun τ ρb q0 q1 hτ hr hQ' => hτ.queue (fun n _ n8 n9 => hr n n8 n9) (by rw [hr 0 (by decide) (by decide)]) (fun n _ n21 => hQ'.2 n n21) (fun k _ => by rw [hQ'.2 0 (by decide)]) (by rw [hQ'.2 0 (by decide), hr 0 (by decide) (by decide)]; exact hτ.1.2.2) hQ'.1
  rcases hT with ⟨s0, n, o, σb, hP, hS, hQ', hr⟩ | ⟨s1, hwk, hQ', hr⟩ | ⟨s1, hwk, hQ', a, b, m, r, Aa, na, Ab, nb, Am, nm, Ar, nr, σc, hP, hR2, hS⟩
  · -- it starts
    rcases hR with ⟨-, a, b, m, sa, sb, sm, ρb, hJF, hS', hT'⟩ | ⟨c, -⟩ | ⟨c, -⟩
    · rcases hKeep with ⟨hK1, -⟩ | ⟨-, c, -⟩
      · refine ⟨_, hK1, fin σb ρb (hA.start hIa hg hnp hj (by rw [eJ]; exact s0) (n := n) (o := o) (n' := plL (ρ 13 j) sa sb sm) (room := plR (ρ 13 j) sa sb sm) ?_ ?_ ?_ ?_ (plR_ge _ _ _ _) hS hS') hr hT'⟩
        all_goals obtain ⟨a2, b2, m2, sa2, sb2, sm2, hJF2, hJQ⟩ := JFr.of h hIn hg hnp hj (Or.inl s0)
        all_goals obtain ⟨y1, y2, y3, y4, y5, y6, y7⟩ := hJF
        all_goals obtain ⟨z1, z2, z3, z4, z5, z6, z7⟩ := hJF2
        all_goals obtain ⟨b1, -, b3⟩ := h.jb j hj (by omega)
        all_goals obtain ⟨d1, -, -, -, -⟩ := b3 (by omega)
        all_goals obtain ⟨-, -, -, -, -, -, -, ⟨p6, ⟨o', p7, p8, p9⟩, p10, -⟩, -⟩ := hJQ
        all_goals obtain rfl : a = a2 := by omega
        all_goals obtain rfl : b = b2 := by omega
        all_goals obtain rfl : sa = sa2 := by omega
        all_goals obtain rfl : sb = sb2 := by omega
        all_goals (
          have hm : plL (ρ 13 j) sa sb sm = plL (ρ 13 j) sa sb sm2 ∧ plR (ρ 13 j) sa sb sm = plR (ρ 13 j) sa sb sm2 := by
            have : sm = sm2 := by
              rcases y7 with ⟨c1, c2, c3⟩ | ⟨c1, c2, c3⟩ <;> rcases z7 with ⟨f1, f2, f3⟩ | ⟨f1, f2, f3⟩
              · obtain rfl : m = m2 := by omega
                omega
              · omega
              · omega
              · omega
            rw [this]; exact ⟨rfl, rfl⟩)
        all_goals obtain ⟨t6, t7, t8, -, -⟩ := hP
        · rw [hm.1, d1]; omega
        · rw [show (n : Int) = plL (σ (40 + j) 1) sa sb sm2 by omega, show o = o' by omega]; exact p8
        · exact t8
        · rw [hm.2, d1, eJ]; exact p10
      · omega
    · omega
    · omega
  · -- work goes down
    have hwe := ((h.jb j hj (by omega)).2.2 (by omega)).2.2.2.2
    have hqe := h.1.2.1
    rcases hR with ⟨c, -⟩ | ⟨-, -, hT'⟩ | ⟨-, c, -⟩
    · omega
    · rcases hKeep with ⟨hK1, -⟩ | ⟨-, -, c⟩
      · refine ⟨_, hK1, fin _ _ (hA.work (j := j) (w := σ (40 + j) 10 - σ 0 5) hg) hr ?_⟩
        rw [hwe, hqe] at hT'
        exact hT'
      · exact absurd hwk c
    · omega
  · -- it ends
    have hwe := ((h.jb j hj (by omega)).2.2 (by omega)).2.2.2.2
    have hqe := h.1.2.1
    rcases hR with ⟨c, -⟩ | ⟨-, c, -⟩ | ⟨-, -, a', b', m', r', Aa', na', Ab', nb', Am', nm', Ar', nr', ρc, hP', hR2', hS'⟩
    · omega
    · omega
    · rcases hKeep with ⟨-, c⟩ | ⟨hK1, -⟩
      · omega
      · refine ⟨_, hK1, ?_⟩
        have hfin := hA.finish hIa hg hnp hj (by rw [eJ]; exact s1) (hP.1.row ar) (by rw [eJ]; exact hP.2.1) hR2 hS (ρw := up (up ρ 0 23 (ρ 0 23 + 1)) 17 j (ρ 17 j - ρ 0 3)) (fun n n0 n17 => by rw [up_n n17]) (fun k => by rw [up_n (by decide)]) (fun i hi => by rw [up_s, zup_n hi]) (show RKr (up ρ 0 23 (ρ 0 23 + 1)) j a' b' m' r' Aa' na' Ab' nb' Am' nm' Ar' nr' from hP') hR2' hS'
        rw [filt_head hI0.2.2.1] at hfin
        exact hfin
end RL
