/-! INV IS KEPT by a turn -/
section ST
variable {g : Nat × Nat × Nat × Nat} {σ σ' : St} {q : List Int}
theorem plL_pos {op : Int} {a b m : Nat} (ha : 1 ≤ a) (hm : op = 3 → 1 ≤ m) (ho : 0 ≤ op ∧ op ≤ 3) : 1 ≤ plL op a b m := by
  unfold plL
  split
  · omega
  · split
    · omega
    · split
      · omega
      · have := hm (by omega); omega
theorem QOK.turn {j : Nat} {q' : List Int} (h : QOK g σ ((j : Int) :: q')) (hq : ∀ i, i < g.2.2.2 → (qd σ' i ↔ qd σ i)) : QOK g σ' (q' ++ [(j : Int)]) := by
  have hp : (q' ++ [(j : Int)]).Perm ((j : Int) :: q') := List.perm_append_comm
  refine ⟨hp.nodup_iff.mpr h.1, fun x hx => ?_, fun i hi hqi => hp.mem_iff.mpr (h.2.2 i hi ((hq i hi).mp hqi))⟩
  obtain ⟨i, e, hi, hqi⟩ := h.2.1 x (hp.mem_iff.mp hx)
  exact ⟨i, e, hi, (hq i hi).mpr hqi⟩
theorem QOK.drop {j : Nat} {q' : List Int} (h : QOK g σ ((j : Int) :: q')) (hj : ¬ qd σ' j) (hq : ∀ i, i < g.2.2.2 → i ≠ j → (qd σ' i ↔ qd σ i)) : QOK g σ' q' := by
  have hn := List.nodup_cons.mp h.1
  refine ⟨hn.2, fun x hx => ?_, fun i hi hqi => ?_⟩
  · obtain ⟨i, e, hi, hqi⟩ := h.2.1 x (List.mem_cons_of_mem _ hx)
    have hne : i ≠ j := fun c => by rw [e, c] at hx; exact hn.1 hx
    exact ⟨i, e, hi, (hq i hi hne).mpr hqi⟩
  · have hne : i ≠ j := fun c => hj (c ▸ hqi)
    rcases List.mem_cons.mp (h.2.2 i hi ((hq i hi hne).mp hqi)) with e | e
    · omega
    · exact e
/-- a job starts, or waits on -/
theorem IN.start (h : IN g σ) (hg : GG g) (hnp : g.2.1 = 2 ^ g.1) {j n o : Nat} (hj : j < g.2.2.2) (hs : σ (40 + j) 0 = 0) (hT : TP0 g σ j n o) (hS : STA g σ σ' j n o) : IN g σ' ∧ (∀ i, i < g.2.2.2 → (qd σ' i ↔ qd σ i)) := by
  rcases hS with ⟨rfl, -⟩ | ⟨hcg, x, A, σ1, σ2, ⟨hx, hu, -⟩, hv, hA, hO, hrm⟩
  · exact ⟨h, fun i _ => Iff.rfl⟩
  · obtain ⟨t6, t7, -, -, t9⟩ := hT
    have hJ := h.jq j hj (Or.inl hs)
    obtain ⟨a, b, m, sa, sb, sm, ho, -, -, fa, -, hm, -, ⟨p6, ⟨o', p7, p8, -⟩, -, -⟩, -⟩ := hJ
    obtain ⟨-, -, -, -, a1, -⟩ := fa.num h hnp
    have hm1 : σ (40 + j) 1 = 3 → 1 ≤ sm := fun e => by
      rcases hm with ⟨-, -, fm, -⟩ | ⟨e', -⟩
      · obtain ⟨-, -, -, -, a1, -⟩ := fm.num h hnp
        exact a1
      · exact absurd e e'
    have hn1 := plL_pos (b := sb) a1 hm1 ho
    obtain rfl : o = o' := by omega
    have hon : ordP (n : Int) o := by rw [show (n : Int) = plL (σ (40 + j) 1) sa sb sm by omega]; exact p8
    have h2 := h.occ hg hnp hx hu hv hon (by omega) hO
    obtain ⟨m1, m2, m3, m4, m5⟩ := hv.mi hg.2.1 hnp h.mi
    obtain ⟨o0, o1, o2, o3, o4, o5, e2, e0, hr⟩ := hO
    have eJ : ∀ k, σ2 (40 + k) = σ (40 + k) := fun k => by rw [hr _ (by omega) (by omega) (by omega), m5 _ (by omega) (by omega)]
    have hnr : ∀ i, i < g.2.2.2 → σ2 (40 + i) 5 ≠ x := fun i hi e => by
      rw [eJ] at e
      rcases (h.res i hi).1 with c | ⟨y, c1, c2, c3⟩
      · omega
      · obtain rfl : x = y := by omega
        omega
    have hz : ∀ i : Nat, i < (σ2 (10 + x) 2).toNat → σ2 2 ((σ2 (10 + x) 3).toNat + i) = 0 := fun i hi => by
      rw [o2, Int.toNat_natCast] at hi
      rw [o3, Int.toNat_natCast, e2]
      unfold fl
      rw [if_pos (by omega)]
    have hbeg : ∀ τ : St, (∀ n, n ≠ 3 → n ≠ 4 → n ≠ 10 + x → n ≠ 40 + j → τ n = σ2 n) → (∀ k, k ≠ 1 → k ≠ 5 → τ (10 + x) k = σ2 (10 + x) k) → τ (10 + x) 1 = 1 → τ (10 + x) 5 = 1 → (∀ k, k ≠ 0 → k ≠ 5 → k ≠ 8 → τ (40 + j) k = σ2 (40 + j) k) → τ (40 + j) 0 = 1 → τ (40 + j) 5 = x → CN g τ → BGM g σ2 τ j → IN g τ ∧ (∀ i, i < g.2.2.2 → (qd τ i ↔ qd σ i)) := by
      intro τ t1 t2 t3 t4 t5 t6' t7' t8 t9'
      refine ⟨h2.beg hg hj (by rw [eJ]; exact hs) hx o0 o1 o5 hnr (by rw [o2, eJ]; omega) hz t1 t2 t3 t4 t5 t6' t7' t8 t9', fun i hi => ?_⟩
      by_cases c : i = j
      · rw [c]; unfold qd; omega
      · exact qd_row (by rw [t1 _ (by omega) (by omega) (by omega) (by omega), eJ])
    have c8 : σ2 (40 + j) 8 = -1 := by
      rw [eJ]
      rcases (h.jq j hj (Or.inl hs)) with ⟨_, _, _, _, _, _, hJ⟩
      rcases hJ.2.2.2.2.2.2.2.2 with ⟨-, -, c⟩ | ⟨c, -⟩
      · exact c
      · omega
    have hCN2 := h2.cn
    rcases hrm with ⟨e9, rfl⟩ | ⟨p2, r2, σ4, e9, hv2, rfl⟩
    · refine hbeg _ (fun n h3 h4 hx' hj' => ?_) (fun k k1 k5 => ?_) ?_ ?_ (fun k k0 k5 k8 => ?_) ?_ ?_ ?_ (Or.inl ⟨?_, ?_, ?_⟩)
      · rw [up_n hj', up_n hj', up_n hx', up_n hx']
      · rw [up_n (by omega), up_n (by omega), up_s, zup_n k5, up_s, zup_n k1]
      · rw [up_n (by omega), up_n (by omega), up_s, zup_n (by decide), up_s, zup_s]
      · rw [up_n (by omega), up_n (by omega), up_s, zup_s]
      · rw [up_s, zup_n k0, up_s, zup_n k5, up_n (by omega), up_n (by omega)]
      · rw [up_s, zup_s]
      · rw [up_s, zup_n (by decide), up_s, zup_s]
      · intro k hk
        rw [up_n (by omega), up_n (by omega), up_n (by omega), up_n (by omega), up_n (by omega), up_n (by omega), up_n (by omega), up_n (by omega)]
        exact hCN2 k hk
      · rw [up_s, zup_n (by decide), up_s, zup_n (by decide), up_n (by omega), up_n (by omega)]; exact c8
      · rw [eJ]; exact e9
      · rw [up_n (by omega), up_n (by omega), up_n (by omega), up_n (by omega)]
    · have w : ∀ n, n ≠ 10 + x → n ≠ 40 + j → (up (up (up σ2 (10 + x) 1 1) (10 + x) 5 1) (40 + j) 5 (x : Int)) n = σ2 n := fun n h1 h2 => by rw [up_n h2, up_n h1, up_n h1]
      have wx : (up (up (up σ2 (10 + x) 1 1) (10 + x) 5 1) (40 + j) 5 (x : Int)) (10 + x) = zup (zup (σ2 (10 + x)) 1 1) 5 1 := by rw [up_n (by omega), up_s, up_s]
      have wj : (up (up (up σ2 (10 + x) 1 1) (10 + x) 5 1) (40 + j) 5 (x : Int)) (40 + j) = zup (σ2 (40 + j)) 5 (x : Int) := by rw [up_s, up_n (by omega), up_n (by omega)]
      generalize up (up (up σ2 (10 + x) 1 1) (10 + x) 5 1) (40 + j) 5 (x : Int) = σ3 at hv2 w wx wj
      have w4 := w 4 (by omega) (by omega)
      have hM3 : MI g.1 (σ3 4) := by rw [w4]; exact h2.mi
      obtain ⟨B, hB⟩ : ∃ B : Nat, r2 = B := by
        rcases hv2 with ⟨-, rfl, hno⟩ | ⟨B, d, e, -⟩
        · exfalso
          rw [w4, hr 4 (by decide) (by decide) (by omega)] at hno
          rcases hv with ⟨e, -⟩ | ⟨a', d', e, ha', hf', hmin', -, e4', -, -⟩
          · omega
          · rw [e9] at hcg
            rcases (cg_iff hnp h.mi h.cn ha' hf' hmin' (by omega)).mp hcg with c | ⟨y, y1, y2⟩
            · omega
            · rw [← e4'] at y2
              exact hno y y1 y2
        · exact ⟨B, e⟩
      subst hB
      obtain ⟨k1, k2, k3, k4, k5⟩ := hv2.mi hg.2.1 hnp hM3
      refine hbeg _ (fun n h3 h4 hx' hj' => ?_) (fun k i1 i5 => ?_) ?_ ?_ (fun k i0 i5 i8 => ?_) ?_ ?_ ?_ (Or.inr ⟨B, p2, ?_, ?_, ?_, ?_, ?_⟩)
      · rw [up_n hj', up_n hj', k5 n h3 h4, w n hx' hj']
      · rw [up_n (by omega), up_n (by omega), k5 _ (by omega) (by omega), wx, zup_n (by assumption), zup_n (by assumption)]
      · rw [up_n (by omega), up_n (by omega), k5 _ (by omega) (by omega), wx, zup_n (by decide), zup_s]
      · rw [up_n (by omega), up_n (by omega), k5 _ (by omega) (by omega), wx, zup_s]
      · rw [up_s, zup_n i0, up_s, zup_n i8, k5 _ (by omega) (by omega), wj, zup_n (by assumption)]
      · rw [up_s, zup_s]
      · rw [up_s, zup_n (by decide), up_s, zup_n (by decide), k5 _ (by omega) (by omega), wj, zup_s]
      · intro k hk
        rw [up_n (by omega), up_n (by omega), up_n (by omega), up_n (by omega)]
        exact k3 k hk
      · rw [up_s, zup_n (by decide), up_s, zup_s]
      · rw [eJ]; exact e9
      · rw [up_n (by omega), up_n (by omega)]; exact k1
      · rw [up_n (by omega), up_n (by omega)]; exact k2
      · rw [up_n (by omega), up_n (by omega)]
        intro y z hyz
        exact k4 y z (by rw [w4]; exact hyz)
theorem IN.finish (h : IN g σ) (hg : GG g) (hnp : g.2.1 = 2 ^ g.1) {j a b m r Aa na Ab nb Am nm Ar nr : Nat} {w : Int} {σc : St} (hj : j < g.2.2.2) (hs : σ (40 + j) 0 = 1) (hT : RKP g σ j a b m r Aa na Ab nb Am nm Ar nr) (ho : 0 ≤ σ (40 + j) 1 ∧ σ (40 + j) 1 ≤ 3) (hK : RKQ g (up σ (40 + j) 10 w) σc j Aa na Ab nb Am nm Ar nr) (hS : STL g σc σ' j r a b m) : LVE g σ σ' j 2 := by
  have hq : qd σ j := Or.inr hs
  obtain ⟨p2, p3, p5, na', nb', nr', hpos, pz, -, -, enr, hm, -, hrm⟩ := hT
  obtain ⟨kL, kr, kc2, -⟩ := hK
  obtain ⟨σ1, σ2, hc, hG, rfl⟩ := hS
  have ec : ∀ n, n ≠ 2 → n ≠ 5 → n ≠ 40 + j → σc n = σ n := fun n h2 h5 hn => by rw [kr n h2 h5, up_n hn]
  have ecj : σc (40 + j) = zup (σ (40 + j)) 10 w := by rw [kr _ (by omega) (by omega), up_s]
  have ecj' : ∀ k, k ≠ 10 → σc (40 + j) k = σ (40 + j) k := fun k hk => by rw [ecj, zup_n hk]
  have hqc : qd σc j := (qd_row (ecj' 0 (by decide))).mpr hq
  have plc : ∀ x, pl1 σc j x = pl1 σ j x := fun x => pl1_row (ecj' 0 (by decide)) (ecj' 1 (by decide)) (ecj' 2 (by decide)) (ecj' 3 (by decide)) (ecj' 4 (by decide))
  have hmlt : σc (40 + j) 1 = 3 → m < g.2.2.1 := fun e => by rw [ecj' 1 (by decide)] at e; exact (hm e).2.1.1
  have hm4 : σc (40 + j) 1 = 3 → σc (40 + j) 4 = m := fun e => by rw [ecj' 1 (by decide)] at e; rw [ecj' 4 (by decide)]; exact (hm e).1
  have hlo : ∀ n, n < 10 ∨ 34 ≤ n → σ1 n = σc n := fun n hn => hc.lo hg.2.2.2.2.2.1 na'.1 nb'.1 hmlt hn
  obtain ⟨g8, gm, gC⟩ := hG.lvm
  have r0 : ∀ n, n ≠ 10 + r → n ≠ 40 + j → up (up (up (up σ2 (10 + r) 5 (σ2 (10 + r) 5 - 1)) (10 + r) 1 0) (40 + j) 10 0) (40 + j) 0 2 n = σ2 n := fun n h1 h2 => by rw [up_n h2, up_n h2, up_n h1, up_n h1]
  have rr := nr'.1
  have rx : up (up (up (up σ2 (10 + r) 5 (σ2 (10 + r) 5 - 1)) (10 + r) 1 0) (40 + j) 10 0) (40 + j) 0 2 (10 + r) = zup (zup (σ2 (10 + r)) 5 (σ2 (10 + r) 5 - 1)) 1 0 := by rw [up_n (by omega), up_n (by omega), up_s, up_s]
  have rj : up (up (up (up σ2 (10 + r) 5 (σ2 (10 + r) 5 - 1)) (10 + r) 1 0) (40 + j) 10 0) (40 + j) 0 2 (40 + j) = zup (zup (σ2 (40 + j)) 10 0) 0 2 := by rw [up_s, up_s, up_n (by omega), up_n (by omega)]
  generalize up (up (up (up σ2 (10 + r) 5 (σ2 (10 + r) 5 - 1)) (10 + r) 1 0) (40 + j) 10 0) (40 + j) 0 2 = τ at r0 rx rj ⊢
  have e2N : ∀ x, x < g.2.2.1 → σ2 (10 + x) = σ1 (10 + x) := fun x hx => hG.row (by omega) (by omega) (by omega)
  have eN2 : ∀ x k, x < g.2.2.1 → k ≠ 5 → σ2 (10 + x) k = σ (10 + x) k := fun x k hx hk => by rw [e2N x hx, hc.fld hk, ec _ (by omega) (by omega) (by omega)]
  have eP2 : ∀ x, x < g.2.2.1 → σ2 (10 + x) 5 = σ (10 + x) 5 - pl1 σ j x := fun x hx => by
    rw [e2N x hx, hc.pl hqc (by rw [ecj' 2 (by decide)]; exact p2) (by rw [ecj' 3 (by decide)]; exact p3) hm4 x, ec _ (by omega) (by omega) (by omega), plc]; omega
  have eN : ∀ x k, x < g.2.2.1 → k ≠ 1 → k ≠ 5 → τ (10 + x) k = σ (10 + x) k := fun x k hx k1 k5 => by
    by_cases c : x = r
    · rw [c, rx, zup_n k1, zup_n k5, eN2 r k rr k5]
    · rw [r0 _ (by omega) (by omega), eN2 x k hx k5]
  have h1r : σ (10 + r) 1 = 1 := by
    obtain ⟨_, _, _, _, _, _, hJ⟩ := h.jq j hj hq
    rcases hJ.2.2.2.2.2.2.2.2 with ⟨c, -⟩ | ⟨-, ⟨r', e5, -, -, q3, -⟩, -⟩
    · omega
    · obtain rfl : r = r' := by omega
      exact q3
  have h1 : ∀ x, x < g.2.2.1 → (x = r ∧ τ (10 + x) 1 = 0 ∧ τ (10 + x) 5 = σ (10 + x) 5 - pl1 σ j x - 1) ∨ (x ≠ r ∧ τ (10 + x) 1 = σ (10 + x) 1 ∧ τ (10 + x) 5 = σ (10 + x) 5 - pl1 σ j x) := fun x hx => by
    by_cases c : x = r
    · refine Or.inl ⟨c, ?_, ?_⟩
      · rw [c, rx, zup_s]
      · rw [c, rx, zup_n (by decide), zup_s, eP2 r rr]
    · exact Or.inr ⟨c, by rw [r0 _ (by omega) (by omega), eN2 x 1 hx (by decide)], by rw [r0 _ (by omega) (by omega), eP2 x hx]⟩
  have e2 : τ 2 = σc 2 := by rw [r0 2 (by omega) (by omega), hG.row (by decide) (by decide) (by omega), hlo 2 (by decide)]
  refine ⟨fun x k hx hk k1 => eN x k hx k1 (by omega), fun x hx => ?_, fun x hx hne => ?_, fun x hx => ?_, fun k hk => by rw [e2]; exact kL k hk, fun x hx hu hne i hi => ?_, ⟨?_, ?_, ?_, ?_⟩, fun i hi hne => ?_, fun k _ _ => ?_, ?_, ?_⟩
  · rw [eN x 0 hx (by decide) (by decide)]
    refine ⟨(h.flg x hx).1, ?_⟩
    rcases h1 x hx with ⟨-, c, -⟩ | ⟨-, c, -⟩
    · exact Or.inl c
    · rw [c]; exact (h.flg x hx).2
  · rcases h1 x hx with ⟨c, -, -⟩ | ⟨-, c, -⟩
    · exact absurd (by rw [c]; exact p5) hne
    · exact c
  · rcases h1 x hx with ⟨c, c1, c2⟩ | ⟨-, c1, c2⟩
    · rw [c1, c2, c, h1r]; omega
    · rw [c1, c2]; omega
  · obtain ⟨A', n', o', d1, d2, d3, -, d5, -, -, -, d8⟩ := h.num hnp hx hu
    have hxr : x ≠ r := fun c => hne (by rw [c]; exact p5)
    rw [d1, Int.toNat_natCast]
    rw [d2, Int.toNat_natCast] at hi
    rw [e2]
    have hur : σ (10 + r) 0 = 1 := by
      rcases (h.res j hj).1 with c | ⟨y, c1, c2, c3⟩
      · omega
      · obtain rfl : r = y := by omega
        exact c3
    obtain ⟨A2, n2, o2, f1, f2, f3, -, f5, -, -, -, f8⟩ := h.num hnp rr hur
    have hd := h.hld.2 _ _ _ _ _ _ hxr d8 f8
    have q3 := nr'.2.1
    have q2 := nr'.2.2.1
    rw [kc2 (A' + i) ?_ ?_, up_n (by omega)]
    · unfold dsj at hd; omega
    · intro rm e8
      rw [up_s, zup_n (by decide)] at e8
      rw [up_s, zup_n (by decide)]
      by_cases c0 : σ (40 + j) 1 = 0
      · rw [c0]; show ¬ (_ ∧ _ < (rm : Int) + 0); omega
      · obtain ⟨rm', L, s1, s2, s3, -⟩ := hrm c0
        rcases h.rm hj with c | ⟨r1, o1, c1, c2, hB, hh⟩
        · omega
        · have hd2 := h.hld.2 _ _ _ _ _ _ (show x ≠ 40 + j by omega) d8 hh
          obtain ⟨a'', b'', m'', sa, sb, sm, _, t2, t3, fa, fb, hm', -, ⟨-, -, hrp, -⟩, -⟩ := h.jq j hj hq
          obtain rfl : a = a'' := by omega
          obtain rfl : b = b'' := by omega
          have z1 := na'.2.2.1
          have z2 := nb'.2.2.1
          have z3 := fa.2.2.2
          have z4 := fb.2.2.2
          have hpl : plR (σ (40 + j) 1) na nb nm = plR (σ (40 + j) 1) sa sb sm := by
            have y1 : (na : Int) = sa := by omega
            have y2 : (nb : Int) = sb := by omega
            rw [y1, y2]
            by_cases c3 : σ (40 + j) 1 = 3
            · obtain ⟨v1, v2, -⟩ := hm c3
              rcases hm' with ⟨-, w2, w3, -⟩ | ⟨w1, -⟩
              · obtain rfl : m = m'' := by omega
                have y3 : (nm : Int) = sm := by have := v2.2.2.1; have := w3.2.2.2; omega
                rw [y3]
              · exact absurd c3 w1
            · unfold plR
              rw [if_neg c0, if_neg c0]
              by_cases d1 : σ (40 + j) 1 = 1
              · rw [if_pos d1, if_pos d1]
              · rw [if_neg d1, if_neg d1, if_pos (by omega), if_pos (by omega)]
          rw [hpl]
          have hL : plR (σ (40 + j) 1) sa sb sm ≤ 2 ^ o1 := by
            rcases hrp with ⟨c, -⟩ | ⟨-, o3, c3, c4, -⟩
            · have := plR_pos (b := sb) (m := sm) (a := sa) (by omega) c0; omega
            · obtain rfl : o3 = o1 := by omega
              exact c4.1
          have hc2 : ((2 ^ o1 : Nat) : Int) = (2 : Int) ^ o1 := by rw [Int.natCast_pow]; rfl
          rw [← hc2] at hL
          generalize 2 ^ o1 = E1 at hL hd2
          unfold dsj at hd2
          omega
  · rw [rj, zup_s]
  · rw [rj, zup_n (by decide), zup_n (by decide)]; exact g8
  · rw [rj, zup_n (by decide), zup_s]
  · rw [rj, zup_n (by decide), zup_n (by decide), hG.job (by decide), hlo _ (by omega), ecj' 5 (by decide)]; exact Or.inr ⟨rfl, rfl⟩
  · rw [r0 _ (by omega) (by omega), hG.row (by omega) (by omega) (by omega), hlo _ (by omega), ec _ (by omega) (by omega) (by omega)]
  · rw [r0 0 (by omega) (by omega), hG.row (by omega) (by omega) (by omega), hlo _ (by omega), ec _ (by omega) (by omega) (by omega)]
  · have := gC (fun k hk => by rw [hlo 3 (by decide), hlo 4 (by decide), ec 3 (by decide) (by decide) (by omega), ec 4 (by decide) (by decide) (by omega)]; exact h.cn k hk)
    exact fun k hk => by rw [r0 3 (by omega) (by omega), r0 4 (by omega) (by omega)]; exact this k hk
  · unfold LVM at *
    rw [r0 4 (by omega) (by omega)]
    rw [hlo 4 (by decide), hlo (40 + j) (by omega), ec 4 (by decide) (by decide) (by omega), ecj' 8 (by decide), ecj' 9 (by decide)] at gm
    exact gm
end ST
