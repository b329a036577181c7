/-! INV IS KEPT by cancelling, submitting, a turn -/
section ST
variable {g : Nat × Nat × Nat × Nat} {σ σ' : St} {q : List Int}
theorem GUR.lvm {σ2 : St} {j : Nat} (hG : GUR g σ σ2 j) : σ2 (40 + j) 8 = -1 ∧ LVM g σ σ2 j ∧ (CN g σ → CN g σ2) := by
  rcases hG with ⟨e, rfl⟩ | ⟨r, o, e8, e9, e4, hC, ej, -⟩
  · exact ⟨e, Or.inl ⟨e, rfl⟩, fun h => h⟩
  · exact ⟨by rw [ej, zup_s], Or.inr ⟨r, o, e8, e9, e4⟩, fun _ => hC⟩
theorem nd_filter {j : Int} (q : List Int) (h : q.Nodup) : (q.filter (fun x => !decide (x = j))).Nodup := h.filter _
theorem QOK.out (h : QOK g σ q) {j : Nat} (hq : ∀ i, i < g.2.2.2 → i ≠ j → (qd σ' i ↔ qd σ i)) (hj : ¬ qd σ' j) : QOK g σ' (q.filter (fun x => !decide (x = (j : Int)))) := by
  refine ⟨nd_filter q h.1, fun x hx => ?_, fun i hi hqi => ?_⟩
  · rw [List.mem_filter] at hx
    obtain ⟨i, e, hi, hqi⟩ := h.2.1 x hx.1
    have hne : i ≠ j := fun c => by
      have := hx.2
      rw [e, c] at this
      simp at this
    exact ⟨i, e, hi, (hq i hi hne).mpr hqi⟩
  · have hne : i ≠ j := fun c => hj (c ▸ hqi)
    rw [List.mem_filter]
    refine ⟨h.2.2 i hi ((hq i hi hne).mp hqi), ?_⟩
    simp only [Bool.not_eq_true', decide_eq_false_iff_not]
    omega
/-- a job that is called off leaves -/
theorem CAN.lve {σ1 σ2 σ3 : St} {j a b m : Nat} (h : IN g σ1) (hg : GG g) (hj : j < g.2.2.2) (hq : qd σ1 j) (hc : cpP σ1 σ2 (σ1 (40 + j) 1) a b m (-1)) (ha : a < g.2.2.1) (hb : b < g.2.2.1) (hm : σ1 (40 + j) 1 = 3 → m < g.2.2.1) (e2 : σ1 (40 + j) 2 = a) (e3 : σ1 (40 + j) 3 = b) (e4 : σ1 (40 + j) 1 = 3 → σ1 (40 + j) 4 = m) (hG : GUR g σ2 σ3 j) : LVE g σ1 (up (up (up σ3 (40 + j) 5 (-1)) (40 + j) 10 0) (40 + j) 0 3) j 3 := by
  have hlo : ∀ n, n < 10 ∨ 34 ≤ n → σ2 n = σ1 n := fun n hn => hc.lo hg.2.2.2.2.2.1 ha hb hm hn
  obtain ⟨g8, gm, gC⟩ := hG.lvm
  have r : ∀ n, n ≠ 40 + j → up (up (up σ3 (40 + j) 5 (-1)) (40 + j) 10 0) (40 + j) 0 3 n = σ3 n := fun n hn => by rw [up_n hn, up_n hn, up_n hn]
  have rj : up (up (up σ3 (40 + j) 5 (-1)) (40 + j) 10 0) (40 + j) 0 3 (40 + j) = zup (zup (zup (σ3 (40 + j)) 5 (-1)) 10 0) 0 3 := by rw [up_s, up_s, up_s]
  generalize up (up (up σ3 (40 + j) 5 (-1)) (40 + j) 10 0) (40 + j) 0 3 = τ at r rj ⊢
  have g3 : ∀ n, n ≠ 3 → n ≠ 4 → n ≠ 40 + j → τ n = σ2 n := fun n h1 h2 h3 => by rw [r n h3, hG.row h1 h2 h3]
  have eN : ∀ x k, x < g.2.2.1 → k ≠ 5 → τ (10 + x) k = σ1 (10 + x) k := fun x k hx hk => by rw [g3 _ (by omega) (by omega) (by omega), hc.fld hk]
  refine ⟨fun x k hx _ hk => ?_, fun x hx => ?_, fun x hx _ => eN x 1 hx (by decide), fun x hx => ?_, fun k hk => ?_, fun x hx _ _ i _ => ?_, ⟨?_, ?_, ?_, ?_⟩, fun i hi hne => ?_, fun k _ _ => ?_, ?_, ?_⟩
  · exact eN x k hx (by omega)
  · rw [eN x 0 hx (by decide), eN x 1 hx (by decide)]; exact h.flg x hx
  · rw [eN x 1 hx (by decide), g3 _ (by omega) (by omega) (by omega), hc.pl hq e2 e3 e4 x]; omega
  · rw [g3 2 (by decide) (by decide) (by omega), hlo 2 (by decide)]; exact h.lm k hk
  · rw [g3 2 (by decide) (by decide) (by omega), hlo 2 (by decide)]
  · rw [rj, zup_s]
  · rw [rj, zup_n (by decide), zup_n (by decide), zup_n (by decide)]; exact g8
  · rw [rj, zup_n (by decide), zup_s]
  · rw [rj, zup_n (by decide), zup_n (by decide), zup_s]; exact Or.inl rfl
  · rw [g3 _ (by omega) (by omega) (by omega), hlo _ (by omega)]
  · rw [g3 0 (by decide) (by decide) (by omega), hlo 0 (by decide)]
  · have := gC (fun k hk => by rw [hlo 3 (by decide), hlo 4 (by decide)]; exact h.cn k hk)
    exact fun k hk => by rw [r 3 (by omega), r 4 (by omega)]; exact this k hk
  · unfold LVM at *
    rw [r 4 (by omega)]
    rw [hlo 4 (by decide), hlo (40 + j) (by omega)] at gm
    exact gm
theorem INV.cancel (h : INV g σ q) (hg : GG g) {j a b m : Nat} (hj : j < g.2.2.2) (hq : qd σ j) (hC : CPj g σ j a b m) (hX : CAN g σ σ' q j a b m) : INV g σ' (q.filter (fun x => !decide (x = (j : Int)))) := by
  obtain ⟨hI, hQ, hK⟩ := h
  obtain ⟨ha, hb, e2, e3, ho, hm, -, -⟩ := hC
  obtain ⟨σ1, σ2, σ3, σ4, ⟨hQ1, r1⟩, hc, hG, hV, rfl⟩ := hX
  have eJ1 : ∀ i, σ1 (40 + i) = σ (40 + i) := fun i => r1 _ (by omega) (by omega)
  have eN1 : ∀ i, i < g.2.2.1 → σ1 (10 + i) = σ (10 + i) := fun i hi => r1 _ (by omega) (by omega)
  have hI1 : IN g σ1 := hI.same (fun n _ _ h8 h9 => r1 n h8 h9) (by rw [r1 0 (by decide) (by decide)]) (by rw [r1 0 (by decide) (by decide)]) (by rw [r1 0 (by decide) (by decide)])
  have hq1 : qd σ1 j := (qd_row (by rw [eJ1])).mpr hq
  rw [← eJ1 j] at hc e2 e3 hm
  have hL := CAN.lve hI1 hg hj hq1 hc ha hb (fun e => (hm e).1) e2 e3 (fun e => (hm e).2) hG
  have hIm := hI1.leave hg hj hq1 (Or.inr rfl) hL
  have hlo : ∀ n, n < 10 ∨ 34 ≤ n → σ2 n = σ1 n := fun n hn => hc.lo hg.2.2.2.2.2.1 ha hb (fun e => (hm e).1) hn
  have r : ∀ n, n ≠ 40 + j → up (up (up σ3 (40 + j) 5 (-1)) (40 + j) 10 0) (40 + j) 0 3 n = σ3 n := fun n hn => by rw [up_n hn, up_n hn, up_n hn]
  have r4 : ∀ n, n ≠ 40 + j → up (up (up σ4 (40 + j) 5 (-1)) (40 + j) 10 0) (40 + j) 0 3 n = σ4 n := fun n hn => by rw [up_n hn, up_n hn, up_n hn]
  have rj4 : up (up (up σ4 (40 + j) 5 (-1)) (40 + j) 10 0) (40 + j) 0 3 (40 + j) = zup (zup (zup (σ4 (40 + j)) 5 (-1)) 10 0) 0 3 := by rw [up_s, up_s, up_s]
  have row3 : ∀ n, n ≠ 3 → n ≠ 4 → n ≠ 40 + j → n < 10 ∨ 34 ≤ n → σ3 n = σ1 n := fun n h1 h2 h3 h4 => by rw [hG.row h1 h2 h3, hlo n h4]
  have row4 : ∀ n, n ≠ 0 → n ≠ 3 → n ≠ 4 → n ≠ 40 + j → n < 10 ∨ 34 ≤ n → σ4 n = σ1 n := fun n h0 h1 h2 h3 h4 => by
    rcases hV with ⟨-, rfl⟩ | ⟨x, A, o, -, hx, -, -, -, hV⟩
    · exact row3 n h1 h2 h3 h4
    · rw [hV.2.2.2.2 n h0 h1 h2 (by omega)]; exact row3 n h1 h2 h3 h4
  have hst4 : ∀ i, i < g.2.2.2 → i ≠ j → up (up (up σ4 (40 + j) 5 (-1)) (40 + j) 10 0) (40 + j) 0 3 (40 + i) = σ (40 + i) := fun i hi hne => by
    rw [r4 _ (by omega), row4 _ (by omega) (by omega) (by omega) (by omega) (by omega), eJ1]
  have hIN : IN g (up (up (up σ4 (40 + j) 5 (-1)) (40 + j) 10 0) (40 + j) 0 3) := by
    rcases hV with ⟨-, rfl⟩ | ⟨x, A, o, e5, hx, hu, hA, hO, hV⟩
    · exact hIm
    · have eNx : ∀ k, k ≠ 5 → up (up (up σ3 (40 + j) 5 (-1)) (40 + j) 10 0) (40 + j) 0 3 (10 + x) k = σ (10 + x) k := fun k hk => by
        rw [r _ (by omega), hG.row (by omega) (by omega) (by omega), hc.fld hk, eN1 x hx]
      have eJm : ∀ i, i < g.2.2.2 → i ≠ j → up (up (up σ3 (40 + j) 5 (-1)) (40 + j) 10 0) (40 + j) 0 3 (40 + i) = σ (40 + i) := fun i hi hne => by
        rw [r _ (by omega), row3 _ (by omega) (by omega) (by omega) (by omega), eJ1]
      have ejm : up (up (up σ3 (40 + j) 5 (-1)) (40 + j) 10 0) (40 + j) 0 3 (40 + j) = zup (zup (zup (σ3 (40 + j)) 5 (-1)) 10 0) 0 3 := by rw [up_s, up_s, up_s]
      refine hIm.vac hg hx (by rw [eNx 0 (by decide)]; exact hu) (by rw [eNx 3 (by decide)]; exact hA) (by rw [eNx 4 (by decide)]; exact hO) (fun i hi hqi ht => ?_) (fun i hi => ?_) ?_
      · have hne : i ≠ j := fun c => by
          rw [c] at hqi
          unfold qd at hqi
          rw [ejm, zup_s] at hqi; omega
        have hq0 : qd σ i := (qd_row (by rw [eJm i hi hne])).mp hqi
        have ht0 : tch σ i x := by unfold tch at *; rw [eJm i hi hne] at ht; exact ht
        exact hI.own hi hj hne hq0 hq ht0 e5
      · by_cases c : i = j
        · rw [c, ejm, zup_n (by decide), zup_n (by decide), zup_s]; omega
        · rw [eJm i hi c]
          intro e
          have := hI.dst i j hi hj c (by omega)
          omega
      · obtain ⟨v4, vC, vx, v0, vr⟩ := hV
        refine ⟨?_, ?_, ?_, ?_, fun n n0 n3 n4 nx => ?_⟩
        · rw [r4 4 (by omega), r 4 (by omega)]; exact v4
        · exact fun k hk => by rw [r4 3 (by omega), r4 4 (by omega)]; exact vC k hk
        · rw [r4 _ (by omega), r _ (by omega)]; exact vx
        · rw [r4 0 (by omega), r 0 (by omega)]; exact v0
        · by_cases c : n = 40 + j
          · rw [c, rj4, ejm, vr _ (by omega) (by omega) (by omega) (by omega)]
          · rw [r4 n c, r n c]; exact vr n n0 n3 n4 nx
  refine ⟨hIN, ?_, ?_⟩
  · refine hQ1.row ?_ ?_
    · rw [r4 8 (by omega), row4 8 (by decide) (by decide) (by decide) (by omega) (by decide)]
    · rw [r4 9 (by omega), row4 9 (by decide) (by decide) (by decide) (by omega) (by decide)]
  · refine hK.out (fun i hi hne => qd_row (by rw [hst4 i hi hne])) ?_
    unfold qd
    rw [rj4, zup_s]; omega
theorem plW_rg {op : Int} {a b m : Nat} (ha : a ≤ 2048) (hb : b ≤ 2048) (hm : m ≤ 2048) : 0 ≤ plW op a b m ∧ plW op a b m ≤ 1000000000000000 := by
  have f : ∀ {x y : Int} {A B : Int}, 0 ≤ x → x ≤ A → 0 ≤ y → y ≤ B → 0 ≤ x * y ∧ x * y ≤ A * B := fun h1 h2 h3 h4 => ⟨Int.mul_nonneg h1 h3, Int.mul_le_mul h2 h4 h3 (by omega)⟩
  have ha' : (0 : Int) ≤ a ∧ (a : Int) ≤ 2048 := by omega
  have hb' : (0 : Int) ≤ b ∧ (b : Int) ≤ 2048 := by omega
  have hm' : (0 : Int) ≤ m ∧ (m : Int) ≤ 2048 := by omega
  unfold plW
  split
  · have := f ha'.1 ha'.2 hb'.1 hb'.2; omega
  · split
    · have := f (x := 31 * (a : Int)) (A := 31 * 2048) (by omega) (by omega) (y := (b : Int) + 1) (B := 2049) (by omega) (by omega); omega
    · split
      · have := f (x := 31 * ((a : Int) + b)) (A := 31 * 4096) (by omega) (by omega) (y := (a : Int) + b) (B := 4096) (by omega) (by omega); omega
      · have h1 := f (x := 31 * (a : Int)) (A := 31 * 2048) (by omega) (by omega) hm'.1 hm'.2
        have h2 := f (x := 1922 * (b : Int)) (A := 1922 * 2048) (by omega) (by omega) hm'.1 hm'.2
        have h3 := f h2.1 h2.2 hm'.1 hm'.2
        omega
theorem nv_pos_of {f : Nat → Int} {A n : Nat} (hl : lim f A n) (h : ¬ sgP f A n 0) : 0 < nv f A n := by
  rcases Int.lt_or_eq_of_le (nv_ge hl) with c | c
  · exact c
  · exfalso
    apply h
    refine ⟨Nat.zero_le _, fun i _ hi => ?_, fun q => absurd q (Nat.lt_irrefl 0)⟩
    have z : lim (fun _ => 0) 0 n := fun i _ => ⟨Int.le_refl 0, show (0 : Int) < 2147483648 by decide⟩
    have := nv_inj hl z (by rw [← c]; exact (nv_zero (fun i _ => rfl)).symm) i hi
    exact this
theorem fin.val (h : IN g σ) (hg : GG g) (hnp : g.2.1 = 2 ^ g.1) {x : Nat} (hx : x < g.2.2.1) (hu : σ (10 + x) 0 = 1) (hz : ¬ zer σ (x : Int)) : 0 < nval σ x := by
  obtain ⟨A, n, o, c1, c2, -, -, -, -, -, ⟨-, -, -, c6⟩, -⟩ := h.num hnp hx hu
  unfold nval
  rw [c1, c2, Int.toNat_natCast, Int.toNat_natCast]
  refine nv_pos_of (fun i hi => h.lm _ (by omega)) (fun hs => hz ⟨A, n, ?_, ?_, hs⟩)
  · rw [Int.toNat_natCast]; exact c1
  · rw [Int.toNat_natCast]; exact c2
theorem QOK.in (h : QOK g σ q) {j : Nat} (hj : j < g.2.2.2) (hn : ¬ qd σ j) (hy : qd σ' j) (hq : ∀ i, i < g.2.2.2 → i ≠ j → (qd σ' i ↔ qd σ i)) : QOK g σ' (q ++ [(j : Int)]) := by
  have hnm : (j : Int) ∉ q := fun hm => by
    obtain ⟨i, e, -, hqi⟩ := h.2.1 _ hm
    obtain rfl : i = j := by omega
    exact hn hqi
  refine ⟨?_, fun x hx => ?_, fun i hi hqi => ?_⟩
  · rw [List.nodup_append]
    refine ⟨h.1, List.nodup_cons.mpr ⟨List.not_mem_nil, List.nodup_nil⟩, fun x hx y hy e => ?_⟩
    rw [List.mem_singleton] at hy
    rw [e, hy] at hx
    exact hnm hx
  · rw [List.mem_append, List.mem_singleton] at hx
    rcases hx with hx | hx
    · obtain ⟨i, e, hi, hqi⟩ := h.2.1 x hx
      have hne : i ≠ j := fun c => hn (c ▸ hqi)
      exact ⟨i, e, hi, (hq i hi hne).mpr hqi⟩
    · exact ⟨j, hx, hj, hy⟩
  · rw [List.mem_append, List.mem_singleton]
    by_cases c : i = j
    · exact Or.inr (by rw [c])
    · exact Or.inl (h.2.2 i hi ((hq i hi c).mp hqi))
theorem INV.submit (h : INV g σ q) (hg : GG g) (hnp : g.2.1 = 2 ^ g.1) {op a b m : Int} {j : Nat} (hop : 0 ≤ op ∧ op ≤ 3) (hf : fin g σ a ∧ fin g σ b ∧ (op = 3 → fin g σ m)) (hz : ¬ ((op = 1 ∧ zer σ b) ∨ (op = 3 ∧ zer σ m))) (hj : j < g.2.2.2) (hs : σ (40 + j) 0 = -1) (hS : sbJ g σ σ' q op a b m j) : INV g σ' (q ++ [(j : Int)]) := by
  obtain ⟨hI, hQ, hK⟩ := h
  obtain ⟨an, bn, mn, sa, sb, sm, σ2, σ3, σ4, rfl, rfl, hm, hm0, ea, eb, ⟨r1, r2, o1, o2, o3, rfl⟩, hc, ⟨hQ4, r4⟩, rfl⟩ := hS
  obtain ⟨⟨x1, x2, xa1, xa2, xa3⟩, ⟨y1, y2, yb1, yb2, yb3⟩, hfm⟩ := hf
  obtain rfl : x1 = an := by omega
  obtain rfl : y1 = bn := by omega
  have hnq : ¬ qd σ j := by unfold qd; omega
  have hmn : op = 3 → m = mn ∧ mn < g.2.2.1 ∧ σ (10 + mn) 0 = 1 ∧ σ (10 + mn) 1 = 0 ∧ σ (10 + mn) 2 = sm := fun e => by
    obtain ⟨z1, z2, z3, z4, z5⟩ := hfm e
    obtain ⟨w1, w2⟩ := hm e
    obtain rfl : z1 = mn := by omega
    exact ⟨w1, z3, z4, z5, w2⟩
  have rj0 : ∀ n, n ≠ 40 + j → (up (up (up (up (up (up (up (up (up σ (40 + j) 1 op) (40 + j) 2 (x1 : Int)) (40 + j) 3 (y1 : Int)) (40 + j) 4 (if op = 3 then m else -1)) (40 + j) 6 (plL op sa sb sm)) (40 + j) 7 (r1 : Int)) (40 + j) 9 r2) (40 + j) 10 (plW op sa sb sm)) (40 + j) 0 0) n = σ n := fun n hn => by
    rw [up_n hn, up_n hn, up_n hn, up_n hn, up_n hn, up_n hn, up_n hn, up_n hn, up_n hn]
  have rj1 : (up (up (up (up (up (up (up (up (up σ (40 + j) 1 op) (40 + j) 2 (x1 : Int)) (40 + j) 3 (y1 : Int)) (40 + j) 4 (if op = 3 then m else -1)) (40 + j) 6 (plL op sa sb sm)) (40 + j) 7 (r1 : Int)) (40 + j) 9 r2) (40 + j) 10 (plW op sa sb sm)) (40 + j) 0 0) (40 + j) = zup (zup (zup (zup (zup (zup (zup (zup (zup (σ (40 + j)) 1 op) 2 (x1 : Int)) 3 (y1 : Int)) 4 (if op = 3 then m else -1)) 6 (plL op sa sb sm)) 7 (r1 : Int)) 9 r2) 10 (plW op sa sb sm)) 0 0 := by
    rw [up_s, up_s, up_s, up_s, up_s, up_s, up_s, up_s, up_s]
  generalize (up (up (up (up (up (up (up (up (up σ (40 + j) 1 op) (40 + j) 2 (x1 : Int)) (40 + j) 3 (y1 : Int)) (40 + j) 4 (if op = 3 then m else -1)) (40 + j) 6 (plL op sa sb sm)) (40 + j) 7 (r1 : Int)) (40 + j) 9 r2) (40 + j) 10 (plW op sa sb sm)) (40 + j) 0 0) = τ at hc rj0 rj1
  have hlo : ∀ n, n < 10 ∨ 34 ≤ n → σ3 n = τ n := fun n hn => hc.lo hg.2.2.2.2.2.1 xa1 yb1 (fun e => (hmn e).2.1) hn
  have row : ∀ n, n ≠ 0 → n ≠ 8 → n ≠ 9 → n < 10 ∨ 34 ≤ n → up σ4 0 7 (σ4 0 7 + 1) n = τ n := fun n h0 h8 h9 h => by rw [up_n h0, r4 n h8 h9, hlo n h]
  have e0 : up σ4 0 7 (σ4 0 7 + 1) 0 = zup (σ 0) 7 (σ 0 7 + 1) := by rw [up_s, r4 0 (by decide) (by decide), hlo 0 (by decide), rj0 0 (by omega)]
  have eN : ∀ x k, x < g.2.2.1 → k ≠ 5 → up σ4 0 7 (σ4 0 7 + 1) (10 + x) k = σ (10 + x) k := fun x k hx hk => by rw [up_n (by omega), r4 _ (by omega) (by omega), hc.fld hk, rj0 _ (by omega)]
  have eP : ∀ x : Nat, x < g.2.2.1 → up σ4 0 7 (σ4 0 7 + 1) (10 + x) 5 = σ (10 + x) 5 + ((if x1 = x then 1 else 0) + (if y1 = x then 1 else 0) + (if op = 3 ∧ mn = x then 1 else 0)) := fun x hx => by
    rw [up_n (by omega), r4 _ (by omega) (by omega), hc.at x, rj0 _ (by omega)]; omega
  have eJ : ∀ i, i < g.2.2.2 → i ≠ j → up σ4 0 7 (σ4 0 7 + 1) (40 + i) = σ (40 + i) := fun i hi hne => by rw [row _ (by omega) (by omega) (by omega) (by omega), rj0 _ (by omega)]
  have ej : up σ4 0 7 (σ4 0 7 + 1) (40 + j) = _ := (row _ (by omega) (by omega) (by omega) (by omega)).trans rj1
  have eL : ∀ n, n = 2 ∨ n = 3 ∨ n = 4 → up σ4 0 7 (σ4 0 7 + 1) n = σ n := fun n hn => by rw [row _ (by omega) (by omega) (by omega) (by omega), rj0 _ (by omega)]
  have hQ' : Qs g (up σ4 0 7 (σ4 0 7 + 1)) (q ++ [(j : Int)]) := hQ4.row (up_n (by decide)) (up_n (by decide))
  clear hQ4 r4 hlo row rj0 rj1 hc
  generalize up σ4 0 7 (σ4 0 7 + 1) = τ' at *
  have j0 : τ' (40 + j) 0 = 0 := by rw [ej, zup_s]
  have j1 : τ' (40 + j) 1 = op := by rw [ej]; simp [zup]
  have j2 : τ' (40 + j) 2 = x1 := by rw [ej]; simp [zup]
  have j3 : τ' (40 + j) 3 = y1 := by rw [ej]; simp [zup]
  have j4 : τ' (40 + j) 4 = if op = 3 then m else -1 := by rw [ej]; simp [zup]
  have j5 : τ' (40 + j) 5 = σ (40 + j) 5 := by rw [ej]; simp [zup]
  have j6 : τ' (40 + j) 6 = plL op sa sb sm := by rw [ej]; simp [zup]
  have j7 : τ' (40 + j) 7 = r1 := by rw [ej]; simp [zup]
  have j8 : τ' (40 + j) 8 = σ (40 + j) 8 := by rw [ej]; simp [zup]
  have j9 : τ' (40 + j) 9 = r2 := by rw [ej]; simp [zup]
  have j10 : τ' (40 + j) 10 = plW op sa sb sm := by rw [ej]; simp [zup]
  clear ej
  obtain ⟨-, s2, s3, -⟩ := hI.res j hj
  have s5 := s2 (by omega) (by omega)
  have s8 := s3 (by unfold qd; omega)
  have val : ∀ x, x < g.2.2.1 → nval τ' x = nval σ x := fun x hx => by
    unfold nval
    rw [eL 2 (by omega), eN x 2 hx (by decide), eN x 3 hx (by decide)]
  have hsz : ∀ {x s : Nat}, x < g.2.2.1 → σ (10 + x) 0 = 1 → σ (10 + x) 2 = s → s ≤ 2048 := fun hx hu e => by
    obtain ⟨A, n, o, c1, c2, -, -, -, -, -, ⟨-, -, -, c6⟩, -⟩ := hI.num hnp hx hu
    omega
  have hsm : sm ≤ 2048 := by
    by_cases c : op = 3
    · obtain ⟨-, w2, w3, w4, w5⟩ := hmn c
      exact hsz w2 w3 w5
    · have := hm0 c; omega
  have hfn : ∀ {x s : Nat}, x < g.2.2.1 → σ (10 + x) 0 = 1 → σ (10 + x) 1 = 0 → σ (10 + x) 2 = s → FN g τ' x s := fun hx h0 h1 h2 => ⟨hx, by rw [eN _ 0 hx (by decide)]; exact h0, by rw [eN _ 1 hx (by decide)]; exact h1, by rw [eN _ 2 hx (by decide)]; exact h2⟩
  have hqj : qd τ' j := Or.inl j0
  have hJ : JQX g τ' j := by
    refine ⟨x1, y1, if op = 3 then mn else 0, sa, sb, sm, by rw [j1]; exact hop, j2, j3, hfn xa1 xa2 xa3 ea, hfn yb1 yb2 yb3 eb, ?_, ?_, ⟨by rw [j6, j1], ⟨r1, j7, by rw [j1]; exact o1, o2⟩, by rw [j9, j1]; exact o3, by rw [j10]; exact plW_rg (hsz xa1 xa2 ea) (hsz yb1 yb2 eb) hsm⟩, Or.inl ⟨j0, by omega, by omega⟩⟩
    · unfold JOM
      rw [j1, j4]
      by_cases c : op = 3
      · obtain ⟨w1, w2, w3, w4, w5⟩ := hmn c
        rw [if_pos c, if_pos c]
        refine Or.inl ⟨c, w1, hfn w2 w3 w4 w5, ?_⟩
        rw [val mn w2]
        exact fin.val hI hg hnp w2 w3 (fun e => hz (Or.inr ⟨c, by rw [w1]; exact e⟩))
      · rw [if_neg c, if_neg c]
        exact Or.inr ⟨c, rfl, hm0 c, rfl⟩
    · rw [j1, val y1 yb1]
      intro c
      exact fin.val hI hg hnp yb1 yb2 (fun e => hz (Or.inl ⟨c, e⟩))
  refine ⟨hI.sub hg hj hs j0 j5 j8 eJ hJ eN (fun x hx => ?_) (eL 2 (by omega)) (eL 3 (by omega)) (eL 4 (by omega)) (by rw [e0, zup_n (by decide)]) (by rw [e0, zup_n (by decide)]) (by rw [e0, zup_s]), hQ', hK.in hj hnq hqj (fun i hi hne => qd_row (by rw [eJ i hi hne]))⟩
  rw [eP x hx, pl1_at (m := mn) hqj j2 j3 (fun c => by rw [j1] at c; rw [j4, if_pos c]; exact (hmn c).1) x, j1]
end ST
