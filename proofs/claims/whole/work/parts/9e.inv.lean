/-! WHAT HOLDS OF THE CLASS'S STATE at every call -/
abbrev qd (σ : St) (j : Nat) : Prop := σ (40 + j) 0 = 0 ∨ σ (40 + j) 0 = 1
/-- the blocks that are held: by a number (its handle), by a job's ROOM (40 + j) -/
def hold (g : Nat × Nat × Nat × Nat) (σ : St) (i A o : Nat) : Prop := (i < g.2.2.1 ∧ σ (10 + i) 0 = 1 ∧ σ (10 + i) 3 = A ∧ σ (10 + i) 4 = o) ∨ (∃ j : Nat, i = 40 + j ∧ j < g.2.2.2 ∧ σ (40 + j) 8 = A ∧ σ (40 + j) 9 = o)
def HLD (g : Nat × Nat × Nat × Nat) (σ : St) : Prop := (∀ i A o, hold g σ i A o → HB g.1 (σ 4) A o) ∧ ∀ i i' A o A' o', i ≠ i' → hold g σ i A o → hold g σ i' A' o' → dsj A (2 ^ o) A' (2 ^ o')
/-- a number -/
def NOK (σ : St) (h : Nat) : Prop := ∃ A n o : Nat, σ (10 + h) 3 = A ∧ σ (10 + h) 2 = n ∧ σ (10 + h) 4 = o ∧ 1 ≤ n ∧ ordP n o
/-- how often a job's operands name h -/
def pl1 (σ : St) (j : Nat) (h : Int) : Int := if qd σ j then (if σ (40 + j) 2 = h then 1 else 0) + (if σ (40 + j) 3 = h then 1 else 0) + (if σ (40 + j) 1 = 3 ∧ σ (40 + j) 4 = h then 1 else 0) else 0
def pns (σ : St) (h : Int) : Nat → Int
  | 0 => 0
  | n + 1 => pns σ h n + pl1 σ n h
def FN (g : Nat × Nat × Nat × Nat) (σ : St) (h s : Nat) : Prop := h < g.2.2.1 ∧ σ (10 + h) 0 = 1 ∧ σ (10 + h) 1 = 0 ∧ σ (10 + h) 2 = s
def nval (σ : St) (h : Nat) : Int := nv (σ 2) (σ (10 + h) 3).toNat (σ (10 + h) 2).toNat
/-- the result of a job that runs -/
def JRS (g : Nat × Nat × Nat × Nat) (σ : St) (j r : Nat) : Prop := r < g.2.2.1 ∧ σ (10 + r) 0 = 1 ∧ σ (10 + r) 1 = 1 ∧ σ (10 + r) 2 = σ (40 + j) 6 ∧ ∀ i : Nat, i < (σ (10 + r) 2).toNat → σ 2 ((σ (10 + r) 3).toNat + i) = 0
def JST (g : Nat × Nat × Nat × Nat) (σ : St) (j : Nat) : Prop := (σ (40 + j) 0 = 0 ∧ σ (40 + j) 5 = -1 ∧ σ (40 + j) 8 = -1) ∨ (σ (40 + j) 0 = 1 ∧ (∃ r : Nat, σ (40 + j) 5 = r ∧ JRS g σ j r) ∧ ((σ (40 + j) 9 = -1 ∧ σ (40 + j) 8 = -1) ∨ (0 ≤ σ (40 + j) 9 ∧ 0 ≤ σ (40 + j) 8)))
def JOM (g : Nat × Nat × Nat × Nat) (σ : St) (j m sm : Nat) : Prop := (σ (40 + j) 1 = 3 ∧ σ (40 + j) 4 = m ∧ FN g σ m sm ∧ 0 < nval σ m) ∨ (σ (40 + j) 1 ≠ 3 ∧ σ (40 + j) 4 = -1 ∧ sm = 0 ∧ m = 0)
def JPL (σ : St) (j sa sb sm : Nat) : Prop := σ (40 + j) 6 = plL (σ (40 + j) 1) sa sb sm ∧ (∃ o : Nat, σ (40 + j) 7 = o ∧ ordP (plL (σ (40 + j) 1) sa sb sm) o ∧ o ≤ 17) ∧ rmP (plR (σ (40 + j) 1) sa sb sm) (σ (40 + j) 9) ∧ (0 ≤ σ (40 + j) 10 ∧ σ (40 + j) 10 ≤ 1000000000000000)
def JQ (g : Nat × Nat × Nat × Nat) (σ : St) (j a b m sa sb sm : Nat) : Prop := (0 ≤ σ (40 + j) 1 ∧ σ (40 + j) 1 ≤ 3) ∧ σ (40 + j) 2 = a ∧ σ (40 + j) 3 = b ∧ FN g σ a sa ∧ FN g σ b sb ∧ JOM g σ j m sm ∧ (σ (40 + j) 1 = 1 → 0 < nval σ b) ∧ JPL σ j sa sb sm ∧ JST g σ j
def JQX (g : Nat × Nat × Nat × Nat) (σ : St) (j : Nat) : Prop := ∃ a b m sa sb sm : Nat, JQ g σ j a b m sa sb sm
/-- the results -/
def RES (g : Nat × Nat × Nat × Nat) (σ : St) (j : Nat) : Prop := (σ (40 + j) 5 = -1 ∨ ∃ h : Nat, σ (40 + j) 5 = h ∧ h < g.2.2.1 ∧ σ (10 + h) 0 = 1) ∧ (σ (40 + j) 0 ≠ 1 → σ (40 + j) 0 ≠ 2 → σ (40 + j) 5 = -1) ∧ (¬ qd σ j → σ (40 + j) 8 = -1) ∧ (2 ≤ σ (40 + j) 0 → σ (40 + j) 10 = 0)
def QOK (g : Nat × Nat × Nat × Nat) (σ : St) (q : List Int) : Prop := q.Nodup ∧ (∀ x ∈ q, ∃ j : Nat, x = j ∧ j < g.2.2.2 ∧ qd σ j) ∧ ∀ j : Nat, j < g.2.2.2 → qd σ j → (j : Int) ∈ q
def usd (σ : St) : Nat → Int := fun h => σ (10 + h) 0
def ths (σ : St) : Nat → Int := fun j => if 0 ≤ σ (40 + j) 0 then 1 else 0
def PIN (g : Nat × Nat × Nat × Nat) (σ : St) : Prop := ∀ h : Nat, h < g.2.2.1 → σ (10 + h) 0 = 1 → σ (10 + h) 5 = pns σ h g.2.2.2 + σ (10 + h) 1
def DST (g : Nat × Nat × Nat × Nat) (σ : St) : Prop := ∀ j j' : Nat, j < g.2.2.2 → j' < g.2.2.2 → j ≠ j' → σ (40 + j) 5 = σ (40 + j') 5 → σ (40 + j) 5 = -1
def I1 (g : Nat × Nat × Nat × Nat) (σ : St) : Prop := MI g.1 (σ 4) ∧ CN g σ ∧ LM g σ ∧ FLG g σ ∧ STT g σ ∧ σ 0 6 = cnt (usd σ) 1 g.2.2.1 ∧ σ 0 7 = cnt (ths σ) 1 g.2.2.2 ∧ (1 ≤ σ 0 5 ∧ σ 0 5 ≤ 2000)
def I2 (g : Nat × Nat × Nat × Nat) (σ : St) : Prop := HLD g σ ∧ (∀ h, h < g.2.2.1 → σ (10 + h) 0 = 1 → NOK σ h) ∧ PIN g σ ∧ (∀ j, j < g.2.2.2 → qd σ j → JQX g σ j) ∧ (∀ j, j < g.2.2.2 → RES g σ j) ∧ DST g σ
def IN (g : Nat × Nat × Nat × Nat) (σ : St) : Prop := I1 g σ ∧ I2 g σ
def INV (g : Nat × Nat × Nat × Nat) (σ : St) (q : List Int) : Prop := IN g σ ∧ Qs g σ q ∧ QOK g σ q
abbrev GG (g : Nat × Nat × Nat × Nat) : Prop := 3 ≤ g.1 ∧ g.1 ≤ 11 ∧ 8 ≤ g.2.1 ∧ g.2.1 ≤ 2048 ∧ 1 ≤ g.2.2.1 ∧ g.2.2.1 ≤ 24 ∧ 1 ≤ g.2.2.2 ∧ g.2.2.2 ≤ 12
/-! sums of pins -/
theorem pl1_rg (σ : St) (j : Nat) (h : Int) : 0 ≤ pl1 σ j h ∧ pl1 σ j h ≤ 3 := by
  unfold pl1
  split
  · constructor <;> (split <;> split <;> split <;> omega)
  · omega
theorem pns_rg (σ : St) (h : Int) : ∀ n : Nat, 0 ≤ pns σ h n ∧ pns σ h n ≤ 3 * n
  | 0 => by show (0 : Int) ≤ 0 ∧ (0 : Int) ≤ _; omega
  | n + 1 => by
    have h1 := pns_rg σ h n
    have h2 := pl1_rg σ n h
    show 0 ≤ pns σ h n + pl1 σ n h ∧ pns σ h n + pl1 σ n h ≤ _
    omega
theorem pns_ext {σ σ' : St} {h : Int} : ∀ {n : Nat}, (∀ j, j < n → pl1 σ' j h = pl1 σ j h) → pns σ' h n = pns σ h n
  | 0, _ => rfl
  | n + 1, e => by
    show pns σ' h n + pl1 σ' n h = pns σ h n + pl1 σ n h
    rw [pns_ext (fun j hj => e j (by omega)), e n (by omega)]
theorem pns_one {σ σ' : St} {h : Int} {i : Nat} : ∀ {n : Nat}, i < n → (∀ j, j < n → j ≠ i → pl1 σ' j h = pl1 σ j h) → pns σ' h n = pns σ h n + pl1 σ' i h - pl1 σ i h
  | 0, hi, _ => by omega
  | n + 1, hi, e => by
    show pns σ' h n + pl1 σ' n h = pns σ h n + pl1 σ n h + pl1 σ' i h - pl1 σ i h
    by_cases c : i = n
    · subst c
      rw [pns_ext (σ := σ) (fun j hj => e j (by omega) (by omega))]; omega
    · rw [pns_one (i := i) (by omega) (fun j hj => e j (by omega)), e n (by omega) (fun q => c q.symm)]; omega
theorem pl1_row {σ σ' : St} {j : Nat} {h : Int} (e0 : σ' (40 + j) 0 = σ (40 + j) 0) (e1 : σ' (40 + j) 1 = σ (40 + j) 1) (e2 : σ' (40 + j) 2 = σ (40 + j) 2) (e3 : σ' (40 + j) 3 = σ (40 + j) 3) (e4 : σ' (40 + j) 4 = σ (40 + j) 4) : pl1 σ' j h = pl1 σ j h := by
  unfold pl1 qd
  rw [e0, e1, e2, e3, e4]
theorem pl1_no {σ : St} {j : Nat} {h : Int} (e : ¬ qd σ j) : pl1 σ j h = 0 := by
  unfold pl1
  rw [if_neg e]
theorem pl1_le {σ : St} {h : Int} {i : Nat} : ∀ {n : Nat}, i < n → pl1 σ i h ≤ pns σ h n
  | 0, hi => by omega
  | n + 1, hi => by
    have h1 := pns_rg σ h n
    have h2 := pl1_rg σ n h
    show pl1 σ i h ≤ pns σ h n + pl1 σ n h
    by_cases c : i = n
    · subst c; omega
    · have := pl1_le (σ := σ) (h := h) (i := i) (n := n) (by omega); omega
/-! what INV gives -/
section IV
variable {g : Nat × Nat × Nat × Nat} {σ : St} {q : List Int}
theorem IN.mi (h : IN g σ) : MI g.1 (σ 4) := h.1.1
theorem IN.cn (h : IN g σ) : CN g σ := h.1.2.1
theorem IN.lm (h : IN g σ) : LM g σ := h.1.2.2.1
theorem IN.flg (h : IN g σ) : FLG g σ := h.1.2.2.2.1
theorem IN.stt (h : IN g σ) : STT g σ := h.1.2.2.2.2.1
theorem IN.c6 (h : IN g σ) : σ 0 6 = cnt (usd σ) 1 g.2.2.1 := h.1.2.2.2.2.2.1
theorem IN.c7 (h : IN g σ) : σ 0 7 = cnt (ths σ) 1 g.2.2.2 := h.1.2.2.2.2.2.2.1
theorem IN.qu (h : IN g σ) : 1 ≤ σ 0 5 ∧ σ 0 5 ≤ 2000 := h.1.2.2.2.2.2.2.2
theorem IN.hld (h : IN g σ) : HLD g σ := h.2.1
theorem IN.nok (h : IN g σ) : ∀ k, k < g.2.2.1 → σ (10 + k) 0 = 1 → NOK σ k := h.2.2.1
theorem IN.pin (h : IN g σ) : PIN g σ := h.2.2.2.1
theorem IN.jq (h : IN g σ) : ∀ j, j < g.2.2.2 → qd σ j → JQX g σ j := h.2.2.2.2.1
theorem IN.res (h : IN g σ) : ∀ j, j < g.2.2.2 → RES g σ j := h.2.2.2.2.2.1
theorem IN.dst (h : IN g σ) : DST g σ := h.2.2.2.2.2.2
theorem cnt_full {f : Nat → Int} {o : Int} : ∀ {n : Nat}, cnt f o n = n → ∀ k, k < n → f k = o
  | 0, _, k, hk => by omega
  | n + 1, e, k, hk => by
    have h1 := cnt_le f o n
    rw [cnt_s] at e
    by_cases c : f n = o
    · rw [if_pos c] at e
      by_cases c2 : k = n
      · rw [c2]; exact c
      · exact cnt_full (n := n) (by omega) k (by omega)
    · rw [if_neg c] at e; omega
theorem IN.c6r (h : IN g σ) : 0 ≤ σ 0 6 ∧ σ 0 6 ≤ g.2.2.1 := by
  rw [h.c6]; exact ⟨cnt_ge _ _ _, cnt_le _ _ _⟩
theorem IN.all (h : IN g σ) : σ 0 6 = g.2.2.1 → ∀ k, k < g.2.2.1 → ¬ σ (10 + k) 0 = 0 := by
  intro e k hk
  rw [h.c6] at e
  have : σ (10 + k) 0 = 1 := cnt_full e k hk
  omega
/-- a number's cells -/
theorem IN.num (h : IN g σ) (hnp : g.2.1 = 2 ^ g.1) {k : Nat} (hk : k < g.2.2.1) (hu : σ (10 + k) 0 = 1) : ∃ A n o : Nat, σ (10 + k) 3 = A ∧ σ (10 + k) 2 = n ∧ σ (10 + k) 4 = o ∧ 1 ≤ n ∧ n ≤ 2 ^ o ∧ ordP n o ∧ HB g.1 (σ 4) A o ∧ NM g σ k A n ∧ hold g σ k A o := by
  obtain ⟨A, n, o, e1, e2, e3, h1, h2⟩ := h.nok k hk hu
  have hh : hold g σ k A o := Or.inl ⟨hk, hu, e1, e3⟩
  have hB := h.hld.1 k A o hh
  have hn : n ≤ 2 ^ o := by have := h2.1; exact_mod_cast this
  have := hB.2.1
  exact ⟨A, n, o, e1, e2, e3, h1, hn, h2, hB, ⟨hk, e1, e2, by omega⟩, hh⟩
theorem IN.pinr (h : IN g σ) (hg : GG g) {k : Nat} (hk : k < g.2.2.1) (hu : σ (10 + k) 0 = 1) : 0 ≤ σ (10 + k) 5 ∧ σ (10 + k) 5 ≤ 1000 := by
  have h1 := h.pin k hk hu
  have h2 := pns_rg σ k g.2.2.2
  have h3 := (h.flg k hk).2
  omega
theorem IN.num2 (h : IN g σ) (hg : GG g) (hnp : g.2.1 = 2 ^ g.1) : NUM g σ := fun k hk hu => by
  obtain ⟨A, n, o, -, -, -, -, -, -, -, h1, -⟩ := h.num hnp hk hu
  exact ⟨A, n, h1, h.pinr hg hk hu⟩
theorem INV.qr (h : INV g σ q) (hg : GG g) : ∀ x ∈ q, 0 ≤ x ∧ x < 12 := fun x hx => by
  obtain ⟨j, rfl, h1, -⟩ := h.2.2.2.1 x hx
  omega
theorem IN.r5 (h : IN g σ) (hg : GG g) : ∀ j, j < g.2.2.2 → -1 ≤ σ (40 + j) 5 ∧ σ (40 + j) 5 ≤ 23 := fun j hj => by
  have := (h.res j hj).1
  rcases this with e | ⟨k, e, h1, -⟩ <;> omega
theorem IN.blk (h : IN g σ) (hnp : g.2.1 = 2 ^ g.1) : ∀ k, k < g.2.2.1 → σ (10 + k) 0 = 1 → ∃ A o : Nat, σ (10 + k) 3 = A ∧ σ (10 + k) 4 = o ∧ BLK g σ A o := fun k hk hu => by
  obtain ⟨A, n, o, e1, -, e3, -, -, -, hB, -, -⟩ := h.num hnp hk hu
  exact ⟨A, o, e1, e3, hB.blk⟩
end IV
/-- the queue has room while a job is free -/
theorem nd_len {J : Nat} : ∀ {q : List Int}, q.Nodup → (∀ x ∈ q, 0 ≤ x ∧ x < J) → q.length ≤ J := by
  induction J with
  | zero =>
    intro q _ h
    cases q with
    | nil => exact Nat.le_refl 0
    | cons x q => have := h x List.mem_cons_self; omega
  | succ J ih =>
    intro q hn h
    have h1 := ih (q := q.erase (J : Int)) (hn.erase _) (fun x hx => by
      have h2 := h x (List.mem_of_mem_erase hx)
      have h3 : x ≠ (J : Int) := fun e => by rw [e] at hx; exact (hn.not_mem_erase) hx
      omega)
    have h4 := List.length_erase (a := (J : Int)) (l := q)
    split at h4 <;> omega
theorem INV.room {g : Nat × Nat × Nat × Nat} {σ : St} {q : List Int} (h : INV g σ q) : ∀ k, k < g.2.2.2 → σ (40 + k) 0 = -1 → q.length < g.2.2.2 := by
  intro k hk e
  have hk0 : (k : Int) ∉ q := fun hm => by
    obtain ⟨j, e2, -, h1⟩ := h.2.2.2.1 _ hm
    obtain rfl : k = j := by omega
    rcases h1 with h1 | h1 <;> omega
  have hn : ((k : Int) :: q).Nodup := List.nodup_cons.mpr ⟨hk0, h.2.2.1⟩
  have := nd_len (J := g.2.2.2) hn (fun x hx => by
    rcases List.mem_cons.mp hx with rfl | hx
    · omega
    · obtain ⟨j, rfl, h1, -⟩ := h.2.2.2.1 x hx
      omega)
  rw [List.length_cons] at this
  omega
