/-! REL IS KEPT: submit, cancel -/
section RL
variable {g : Nat × Nat × Nat × Nat} {σ σ' ρ ρ' : St} {q : List Int}
theorem op_iff (h : REL g σ ρ q) {x : Int} : rOp g ρ x ↔ fin g σ x := by
  constructor
  · rintro ⟨n, e, h1, h2, h3⟩
    have hu : σ (10 + n) 0 = 1 := by rw [← h.u6 n h1]; exact h2
    exact ⟨n, e, h1, hu, by rw [← (h.nm n h1 hu).2.2.2.2.1]; exact h3⟩
  · rintro ⟨n, e, h1, h2, h3⟩
    exact ⟨n, e, h1, by rw [h.u6 n h1]; exact h2, by rw [(h.nm n h1 h2).2.2.2.2.1]; exact h3⟩
theorem sgP_ext {f f' : Nat → Int} {A n r : Nat} (h : ∀ i, i < n → f' (A + i) = f (A + i)) (hs : sgP f A n r) : sgP f' A n r := by
  obtain ⟨h1, h2, h3⟩ := hs
  refine ⟨h1, fun i i1 i2 => by rw [h i i2]; exact h2 i i1 i2, fun hr => by rw [h _ (by omega)]; exact h3 hr⟩
theorem zer_iff (h : REL g σ ρ q) (hI : IN g σ) (hnp : g.2.1 = 2 ^ g.1) {x : Int} (hf : fin g σ x) : rZer ρ x ↔ zer σ x := by
  obtain ⟨n, rfl, h1, h2, h3⟩ := hf
  obtain ⟨A, s, o, c1, c2, -⟩ := hI.num hnp h1 h2
  obtain ⟨r1, r2, -, -, -, r6⟩ := h.nm n h1 h2
  rw [c1, c2, Int.toNat_natCast, Int.toNat_natCast] at r6
  unfold rZer zer
  rw [Int.toNat_natCast]
  constructor
  · rintro ⟨A', s', e1, e2, hs⟩
    obtain rfl : A = A' := by omega
    obtain rfl : s = s' := by omega
    exact ⟨A, s, c1, c2, sgP_ext (fun i hi => (r6 i hi).symm) hs⟩
  · rintro ⟨A', s', e1, e2, hs⟩
    obtain rfl : A = A' := by omega
    obtain rfl : s = s' := by omega
    exact ⟨A, s, by omega, by omega, sgP_ext r6 hs⟩
/-- the rows of the class's state when a job came -/
def SBR (g : Nat × Nat × Nat × Nat) (σ τ : St) (q : List Int) (op m : Int) (j an bn mn sa sb sm : Nat) : Prop := Qs g τ (q ++ [(j : Int)]) ∧ τ 0 = zup (σ 0) 7 (σ 0 7 + 1) ∧ (∀ x k, x < g.2.2.1 → k ≠ 5 → τ (10 + x) k = σ (10 + x) k) ∧ (∀ x : Nat, x < g.2.2.1 → τ (10 + x) 5 = σ (10 + x) 5 + ((if an = x then 1 else 0) + (if bn = x then 1 else 0) + (if op = 3 ∧ mn = x then 1 else 0))) ∧ (∀ i, i < g.2.2.2 → i ≠ j → τ (40 + i) = σ (40 + i)) ∧ (∀ n, n = 2 ∨ n = 3 ∨ n = 4 → τ n = σ n) ∧
  τ (40 + j) 0 = 0 ∧ τ (40 + j) 1 = op ∧ τ (40 + j) 2 = an ∧ τ (40 + j) 3 = bn ∧ τ (40 + j) 4 = (if op = 3 then m else -1) ∧ τ (40 + j) 5 = σ (40 + j) 5 ∧ τ (40 + j) 8 = σ (40 + j) 8 ∧ τ (40 + j) 10 = plW op sa sb sm
theorem sbJ.rows (hg : GG g) {op a b m : Int} {j : Nat} (hj : j < g.2.2.2) (hf : fin g σ a ∧ fin g σ b ∧ (op = 3 → fin g σ m)) (hS : sbJ g σ σ' q op a b m j) : ∃ an bn mn sa sb sm : Nat, a = an ∧ b = bn ∧ an < g.2.2.1 ∧ bn < g.2.2.1 ∧ (op = 3 → m = mn ∧ mn < g.2.2.1 ∧ σ (10 + mn) 2 = sm) ∧ (op ≠ 3 → sm = 0) ∧ σ (10 + an) 2 = sa ∧ σ (10 + bn) 2 = sb ∧ SBR g σ σ' q op m j an bn mn sa sb sm := by
  obtain ⟨an, bn, mn, sa, sb, sm, σ2, σ3, σ4, rfl, rfl, hm, hm0, ea, eb, ⟨r1, r2, o1, o2, o3, rfl⟩, hc, ⟨hQ4, r4⟩, rfl⟩ := hS
  obtain ⟨⟨x1, x2, xa1, xa2, xa3⟩, ⟨y1, y2, yb1, yb2, yb3⟩, hfm⟩ := hf
  obtain rfl : x1 = an := by omega
  obtain rfl : y1 = bn := by omega
  have hmn : op = 3 → m = mn ∧ mn < g.2.2.1 ∧ σ (10 + mn) 2 = sm := fun e => by
    obtain ⟨z1, z2, z3, z4, z5⟩ := hfm e
    obtain ⟨w1, w2⟩ := hm e
    obtain rfl : z1 = mn := by omega
    exact ⟨w1, z3, w2⟩
  refine ⟨x1, y1, mn, sa, sb, sm, rfl, rfl, xa1, yb1, hmn, hm0, ea, eb, ?_⟩
  have rj0 : ∀ n, n ≠ 40 + j → (up (up (up (up (up (up (up (up (up σ (40 + j) 1 op) (40 + j) 2 (x1 : Int)) (40 + j) 3 (y1 : Int)) (40 + j) 4 (if op = 3 then m else -1)) (40 + j) 6 (plL op sa sb sm)) (40 + j) 7 (r1 : Int)) (40 + j) 9 r2) (40 + j) 10 (plW op sa sb sm)) (40 + j) 0 0) n = σ n := fun n hn => by
    rw [up_n hn, up_n hn, up_n hn, up_n hn, up_n hn, up_n hn, up_n hn, up_n hn, up_n hn]
  have rj1 : (up (up (up (up (up (up (up (up (up σ (40 + j) 1 op) (40 + j) 2 (x1 : Int)) (40 + j) 3 (y1 : Int)) (40 + j) 4 (if op = 3 then m else -1)) (40 + j) 6 (plL op sa sb sm)) (40 + j) 7 (r1 : Int)) (40 + j) 9 r2) (40 + j) 10 (plW op sa sb sm)) (40 + j) 0 0) (40 + j) = zup (zup (zup (zup (zup (zup (zup (zup (zup (σ (40 + j)) 1 op) 2 (x1 : Int)) 3 (y1 : Int)) 4 (if op = 3 then m else -1)) 6 (plL op sa sb sm)) 7 (r1 : Int)) 9 r2) 10 (plW op sa sb sm)) 0 0 := by
    rw [up_s, up_s, up_s, up_s, up_s, up_s, up_s, up_s, up_s]
  generalize (up (up (up (up (up (up (up (up (up σ (40 + j) 1 op) (40 + j) 2 (x1 : Int)) (40 + j) 3 (y1 : Int)) (40 + j) 4 (if op = 3 then m else -1)) (40 + j) 6 (plL op sa sb sm)) (40 + j) 7 (r1 : Int)) (40 + j) 9 r2) (40 + j) 10 (plW op sa sb sm)) (40 + j) 0 0) = τ at hc rj0 rj1
  have hlo : ∀ n, n < 10 ∨ 34 ≤ n → σ3 n = τ n := fun n hn => hc.lo hg.2.2.2.2.2.1 xa1 yb1 (fun e => (hmn e).2.1) hn
  have row : ∀ n, n ≠ 0 → n ≠ 8 → n ≠ 9 → n < 10 ∨ 34 ≤ n → up σ4 0 7 (σ4 0 7 + 1) n = τ n := fun n h0 h8 h9 h => by rw [up_n h0, r4 n h8 h9, hlo n h]
  have ej : up σ4 0 7 (σ4 0 7 + 1) (40 + j) = _ := (row _ (by omega) (by omega) (by omega) (by omega)).trans rj1
  refine ⟨hQ4.row (up_n (by decide)) (up_n (by decide)), ?_, fun x k hx hk => ?_, fun x hx => ?_, fun i hi hne => ?_, fun n hn => ?_, ?_, ?_, ?_, ?_, ?_, ?_, ?_, ?_⟩
  · rw [up_s, r4 0 (by decide) (by decide), hlo 0 (by decide), rj0 0 (by omega)]
  · rw [up_n (by omega), r4 _ (by omega) (by omega), hc.fld hk, rj0 _ (by omega)]
  · rw [up_n (by omega), r4 _ (by omega) (by omega), hc.at x, rj0 _ (by omega)]; omega
  · rw [row _ (by omega) (by omega) (by omega) (by omega), rj0 _ (by omega)]
  · rw [row _ (by omega) (by omega) (by omega) (by omega), rj0 _ (by omega)]
  · rw [ej, zup_s]
  · rw [ej]; simp [zup]
  · rw [ej]; simp [zup]
  · rw [ej]; simp [zup]
  · rw [ej]; simp [zup]
  · rw [ej]; simp [zup]
  · rw [ej]; simp [zup]
  · rw [ej]; simp [zup]
theorem up_at (σ : St) (n k : Nat) (z : Int) (a i : Nat) : up σ n k z a i = if a = n ∧ i = k then z else σ a i := by
  by_cases c : a = n
  · subst c
    rw [up_s]
    by_cases d : i = k
    · rw [d, zup_s, if_pos ⟨rfl, rfl⟩]
    · rw [zup_n d, if_neg (fun e => d e.2)]
  · rw [up_n c, if_neg (fun e => c e.1)]
theorem upn_at (ρ : St) (h x : Nat) : upn ρ h 10 x = ρ 10 x + (if h = x then 1 else 0) := by
  unfold upn
  rw [up_s]
  by_cases c : h = x
  · rw [c, zup_s, if_pos rfl]
  · rw [zup_n (fun e => c e.symm), if_neg c]; omega
theorem sb2_at (ρ : St) (op : Int) (a b m x : Nat) : sb2 ρ op a b m 10 x = ρ 10 x + ((if a = x then 1 else 0) + (if b = x then 1 else 0) + (if op = 3 ∧ m = x then 1 else 0)) := by
  unfold sb2
  by_cases c : op = 3
  · rw [if_pos c, upn_at, upn_at, upn_at]
    by_cases d : m = x
    · rw [if_pos d, if_pos (show op = 3 ∧ m = x from ⟨c, d⟩)]; omega
    · rw [if_neg d, if_neg (show ¬ (op = 3 ∧ m = x) from fun e => d e.2)]; omega
  · rw [if_neg c, upn_at, upn_at, if_neg (show ¬ (op = 3 ∧ m = x) from fun e => c e.1)]; omega
theorem sb2_row (ρ : St) (op : Int) (a b m : Nat) {n : Nat} (hn : n ≠ 10) : sb2 ρ op a b m n = ρ n := by
  unfold sb2 upn
  split
  · rw [up_n hn, up_n hn, up_n hn]
  · rw [up_n hn, up_n hn]
theorem QL.push (h : QL ρ q) (hl : q.length < 12) {j : Int} (h0 : ρ' 0 22 = ρ 0 22 + 1) (h1 : ρ' 21 = zup (ρ 21) (ρ 0 22).toNat j) : QL ρ' (q ++ [j]) := by
  obtain ⟨a1, a2, a3⟩ := h
  refine ⟨?_, ?_, fun k hk => ?_⟩
  · rw [h0, a1, List.length_append]; rfl
  · rw [List.length_append]; exact hl
  · rw [List.length_append, List.length_singleton] at hk
    rw [h1, a1, Int.toNat_natCast]
    by_cases c : k = q.length
    · rw [c, zup_s, List.getElem?_append_right (Nat.le_refl _), Nat.sub_self]; rfl
    · rw [zup_n c, List.getElem?_append_left (by omega)]; exact a3 k (by omega)
theorem REL.subJ (h : REL g σ ρ q) (hI : INV g σ q) (hg : GG g) {op a b m : Int} {j : Nat} (hf : fin g σ a ∧ fin g σ b ∧ (op = 3 → fin g σ m)) (hj : j < g.2.2.2) (hs : σ (40 + j) 0 = -1) (hS : sbJ g σ σ' q op a b m j) (hR : rsJ ρ ρ' op a b m j) : REL g σ' ρ' (q ++ [(j : Int)]) := by
  obtain ⟨an, bn, mn, sa, sb, sm, rfl, rfl, la, lb, hm, hm0, ea, eb, -, e0, eN, eP, eJ, eL, j0, j1, j2, j3, j4, j5, j8, j10⟩ := sbJ.rows hg hj hf hS
  obtain ⟨an', bn', mn', sa', sb', sm', a1', b1', hm', hm0', ea', eb', rfl⟩ := hR
  obtain rfl : an = an' := by omega
  obtain rfl : bn = bn' := by omega
  have hlen := hI.room j hj hs
  obtain ⟨⟨xa, xa0, xa1, xa2, xa3⟩, ⟨xb, xb0, xb1, xb2, xb3⟩, hfm⟩ := hf
  obtain rfl : xa = an := by omega
  obtain rfl : xb = bn := by omega
  have esa : sa = sa' := by have := (h.nm _ la xa2).1; omega
  have esb : sb = sb' := by have := (h.nm _ lb xb2).1; omega
  have esm : sm = sm' := by
    by_cases c : op = 3
    · obtain ⟨z1, z2, z3, z4, z5⟩ := hfm c
      obtain ⟨w1, w2, w3⟩ := hm c
      obtain ⟨w1', w3'⟩ := hm' c
      obtain rfl : mn = mn' := by omega
      obtain rfl : z1 = mn := by omega
      have := (h.nm _ w2 z4).1; omega
    · have := hm0 c; have := hm0' c; omega
  subst esa esb esm
  have emn : op = 3 → mn' = mn := fun c => by have := (hm c).1; have := (hm' c).1; omega
  obtain ⟨-, s2, s3, -⟩ := hI.1.res j hj
  have s5 := s2 (by omega) (by omega)
  have s8 := s3 (by unfold qd; omega)
  -- the reference's rows
  have f : ∀ n, n ≠ 0 → n ≠ 10 → n ≠ 21 → rsF ρ op xa xb m j xa xb mn' sa sb sm n = up (sb1 ρ j op xa xb (if op = 3 then m else -1)) 17 j (plW op sa sb sm) n := fun n h0 h10 h21 => by
    unfold rsF; rw [up_n h0, up_n h21, sb2_row _ _ _ _ _ h10]
  have f1 : ∀ n, n ≠ 0 → n ≠ 10 → n ≠ 21 → (n < 12 ∨ 20 < n ∨ n = 19) → rsF ρ op xa xb m j xa xb mn' sa sb sm n = ρ n := fun n h0 h10 h21 hn => by
    rw [f n h0 h10 h21, up_n (by omega)]; unfold sb1
    rw [up_n (by omega), up_n (by omega), up_n (by omega), up_n (by omega), up_n (by omega), up_n (by omega), up_n (by omega)]
  have f2 : ∀ n i, 12 ≤ n → n ≤ 20 → i ≠ j → rsF ρ op xa xb m j xa xb mn' sa sb sm n i = ρ n i := fun n i h1 h2 hi => by
    rw [f n (by omega) (by omega) (by omega)]
    simp only [sb1, up_at, hi, and_false, if_false]
  have f3 : ∀ n, 12 ≤ n → n ≤ 20 → rsF ρ op xa xb m j xa xb mn' sa sb sm n j = up (sb1 ρ j op xa xb (if op = 3 then m else -1)) 17 j (plW op sa sb sm) n j := fun n h1 h2 => by rw [f n (by omega) (by omega) (by omega)]
  have k12 : rsF ρ op xa xb m j xa xb mn' sa sb sm 12 j = 0 := by rw [f3 12 (by decide) (by decide)]; simp [sb1, up_at]
  have k13 : rsF ρ op xa xb m j xa xb mn' sa sb sm 13 j = op := by rw [f3 13 (by decide) (by decide)]; simp [sb1, up_at]
  have k14 : rsF ρ op xa xb m j xa xb mn' sa sb sm 14 j = xa := by rw [f3 14 (by decide) (by decide)]; simp [sb1, up_at]
  have k15 : rsF ρ op xa xb m j xa xb mn' sa sb sm 15 j = xb := by rw [f3 15 (by decide) (by decide)]; simp [sb1, up_at]
  have k16 : rsF ρ op xa xb m j xa xb mn' sa sb sm 16 j = if op = 3 then m else -1 := by rw [f3 16 (by decide) (by decide)]; simp [sb1, up_at]
  have k17 : rsF ρ op xa xb m j xa xb mn' sa sb sm 17 j = plW op sa sb sm := by rw [f3 17 (by decide) (by decide)]; simp [sb1, up_at]
  have k18 : rsF ρ op xa xb m j xa xb mn' sa sb sm 18 j = -1 := by rw [f3 18 (by decide) (by decide)]; simp [sb1, up_at]
  have k20 : rsF ρ op xa xb m j xa xb mn' sa sb sm 20 j = -1 := by rw [f3 20 (by decide) (by decide)]; simp [sb1, up_at]
  have k0 : rsF ρ op xa xb m j xa xb mn' sa sb sm 0 = zup (ρ 0) 22 (ρ 0 22 + 1) := by
    unfold rsF; rw [up_s, up_n (by decide), sb2_row _ _ _ _ _ (by decide), up_n (by decide)]; unfold sb1
    rw [up_n (by decide), up_n (by decide), up_n (by decide), up_n (by decide), up_n (by decide), up_n (by decide), up_n (by decide)]
  have k21 : rsF ρ op xa xb m j xa xb mn' sa sb sm 21 = zup (ρ 21) (ρ 0 22).toNat j := by
    unfold rsF; rw [up_n (by decide), up_s, sb2_row _ _ _ _ _ (by decide), up_n (by decide)]; unfold sb1
    rw [up_n (by decide), up_n (by decide), up_n (by decide), up_n (by decide), up_n (by decide), up_n (by decide), up_n (by decide)]
  have k10 : ∀ x, rsF ρ op xa xb m j xa xb mn' sa sb sm 10 x = ρ 10 x + ((if xa = x then 1 else 0) + (if xb = x then 1 else 0) + (if op = 3 ∧ mn' = x then 1 else 0)) := fun x => by
    unfold rsF; rw [up_n (by decide), up_n (by decide), sb2_at, up_n (by decide)]; unfold sb1
    rw [up_n (by decide), up_n (by decide), up_n (by decide), up_n (by decide), up_n (by decide), up_n (by decide), up_n (by decide)]
  generalize rsF ρ op xa xb m j xa xb mn' sa sb sm = τ at *
  clear f f3
  have a6 := h.ql.push (j := (j : Int)) (by omega) (by rw [k0, zup_s]) k21
  obtain ⟨a1, a2, a3, ⟨n1, n2, n3, n4⟩, ⟨q1, q2, q3⟩, -⟩ := h
  have e4 := eL 4 (by omega)
  have e2 := eL 2 (by omega)
  refine ⟨?_, ?_, ?_, ⟨?_, ?_, ?_, ?_⟩, ⟨?_, ?_, ?_⟩, a6⟩
  · unfold RS; rw [k0, e0, zup_n (by decide), zup_n (by decide), zup_n (by decide), zup_n (by decide), zup_n (by decide), zup_n (by decide), zup_n (by decide)]; exact a1
  · rw [f1 5 (by decide) (by decide) (by decide) (by decide), e4]; exact a2
  · intro k hk; rw [f1 4 (by decide) (by decide) (by decide) (by decide)]; exact a3 k hk
  · rw [f1 11 (by decide) (by decide) (by decide) (by decide)]; exact n1
  · intro y hy; rw [f1 6 (by decide) (by decide) (by decide) (by decide), eN y 0 hy (by decide)]; exact n2 y hy
  · rw [f1 6 (by decide) (by decide) (by decide) (by decide)]; exact n3
  · intro y hy hu
    rw [eN y 0 hy (by decide)] at hu
    obtain ⟨r1, r2, r3, r4, r5, r6⟩ := n4 y hy hu
    unfold RNm
    rw [f1 7 (by decide) (by decide) (by decide) (by decide), f1 8 (by decide) (by decide) (by decide) (by decide), f1 9 (by decide) (by decide) (by decide) (by decide), f1 11 (by decide) (by decide) (by decide) (by decide), f1 4 (by decide) (by decide) (by decide) (by decide), eN y 2 hy (by decide), eN y 3 hy (by decide), eN y 4 hy (by decide), eN y 1 hy (by decide), e2, k10 y, eP y hy, r4]
    refine ⟨r1, r2, r3, ?_, r5, r6⟩
    by_cases c : op = 3
    · rw [emn c]
    · rw [if_neg (show ¬ (op = 3 ∧ mn' = y) from fun e => c e.1), if_neg (show ¬ (op = 3 ∧ mn = y) from fun e => c e.1)]
  · intro i hi
    by_cases c : i = j
    · rw [c, k12, j0]
    · rw [f2 12 i (by decide) (by decide) c, eJ i hi c]; exact q1 i hi
  · intro i h1 h2
    rw [f2 12 i (by decide) (by decide) (by omega)]; exact q2 i h1 h2
  · intro i hi hsi
    by_cases c : i = j
    · subst c
      refine ⟨by rw [k18, j5, s5], Or.inl ⟨by rw [j8, s8], k20⟩, fun _ => ⟨by rw [k13, j1], by rw [k14, j2], by rw [k15, j3], by rw [k16, j4], by rw [k17, j10]⟩⟩
    · rw [eJ i hi c] at hsi
      exact (q3 i hi hsi).row (fun k => by rw [eJ i hi c]) (fun n n1 n2 => f2 n i (by omega) n2 c)
theorem REL.submit (h : REL g σ ρ q) (hI : INV g σ q) (hg : GG g) (hnp : g.2.1 = 2 ^ g.1) {op a b m v v' : Int} (hP : sbP g σ σ' q op a b m v) (hR : rsP g ρ ρ' op a b m v') : v = v' ∧ ∃ q', INV g σ' q' ∧ REL g σ' ρ' q' := by
  rcases hP with ⟨c, rfl, rfl⟩ | ⟨c, hP⟩
  · rcases hR with ⟨-, rfl, rfl⟩ | ⟨c', -⟩
    · exact ⟨rfl, q, hI, h⟩
    · exact absurd c' c
  rcases hR with ⟨c', -⟩ | ⟨-, hR⟩
  · exact absurd c c'
  have hop : (rOp g ρ a ∧ rOp g ρ b ∧ (op = 3 → rOp g ρ m)) ↔ (fin g σ a ∧ fin g σ b ∧ (op = 3 → fin g σ m)) := by rw [op_iff h, op_iff h, op_iff h]
  rcases hP with ⟨d, rfl, rfl⟩ | ⟨d, hP⟩
  · rcases hR with ⟨-, rfl, rfl⟩ | ⟨d', -⟩
    · exact ⟨rfl, q, hI, h⟩
    · exact absurd (hop.mp d') d
  rcases hR with ⟨d', -⟩ | ⟨-, hR⟩
  · exact absurd (hop.mpr d) d'
  have hz : ((op = 1 ∧ rZer ρ b) ∨ (op = 3 ∧ rZer ρ m)) ↔ ((op = 1 ∧ zer σ b) ∨ (op = 3 ∧ zer σ m)) := by
    rw [zer_iff h hI.1 hnp d.2.1]
    constructor
    · rintro (e | ⟨e1, e2⟩)
      · exact Or.inl e
      · exact Or.inr ⟨e1, (zer_iff h hI.1 hnp (d.2.2 e1)).mp e2⟩
    · rintro (e | ⟨e1, e2⟩)
      · exact Or.inl e
      · exact Or.inr ⟨e1, (zer_iff h hI.1 hnp (d.2.2 e1)).mpr e2⟩
  rcases hP with ⟨e, rfl, rfl⟩ | ⟨e, hP⟩
  · rcases hR with ⟨-, rfl, rfl⟩ | ⟨e', -⟩
    · exact ⟨rfl, q, hI, h⟩
    · exact absurd (hz.mpr e) e'
  rcases hR with ⟨e', -⟩ | ⟨-, hR⟩
  · exact absurd (hz.mp e') e
  have hst : ∀ i, i < g.2.2.2 → (ρ 12 i < 0 ↔ σ (40 + i) 0 = -1) := fun i hi => by
    rw [h.st i hi]
    have := hI.1.stt i hi
    omega
  rcases hP with ⟨f, rfl, rfl⟩ | ⟨j, ⟨hj, hs, hl⟩, rfl, hS⟩
  · rcases hR with ⟨-, rfl, rfl⟩ | ⟨j', ⟨hj', hs', -⟩, -⟩
    · exact ⟨rfl, q, hI, h⟩
    · exact absurd ((hst j' hj').mp hs') (f j' hj')
  rcases hR with ⟨f', -⟩ | ⟨j', ⟨hj', hs', hl'⟩, rfl, hR⟩
  · exact absurd ((hst j hj).mpr hs) (f' j hj)
  obtain rfl : j = j' := by
    rcases Nat.lt_trichotomy j j' with c | c | c
    · exact absurd ((hst j hj).mpr hs) (hl' j c)
    · exact c
    · exact absurd ((hst j' hj').mp hs') (hl j' c)
  exact ⟨rfl, _, hI.submit hg hnp c d e hj hs hS, h.subJ hI hg d hj hs hS hR⟩
end RL
