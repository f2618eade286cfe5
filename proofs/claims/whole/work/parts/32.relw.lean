theorem mrow_ne {σ : Mem} {c k a : Nat} {x : Int32} (h : a ≠ c) : mput σ c k x a = σ a := by
  funext b
  exact mput_ne (fun q => h q.1)
theorem mput_same {σ : Mem} {c k : Nat} : mput σ c k (σ c k) = σ := by
  funext a b
  by_cases h : a = c ∧ b = k
  · rw [h.1, h.2, mput_eq]
  · rw [mput_ne h]
def rch (v0 : Nat) (σ : Mem) : Mem := mput (mput (mput (mput σ (v0 + 3) 0 (upA (σ (v0 + 2)) (σ (v0 + 1) 0))) (v0 + 3) 1 (upA (σ (v0 + 2)) (σ (v0 + 1) 1))) (v0 + 3) 2 (upA (σ (v0 + 2)) (σ (v0 + 1) 2))) (v0 + 3) 3 (upA (σ (v0 + 2)) (σ (v0 + 1) 3))
theorem rch_ne {v0 c : Nat} {σ : Mem} (h : c ≠ v0 + 3) : rch v0 σ c = σ c := by
  unfold rch
  rw [mrow_ne h, mrow_ne h, mrow_ne h, mrow_ne h]
theorem rch_at {v0 g : Nat} {σ : Mem} (hg : g < 4) : rch v0 σ (v0 + 3) g = upA (σ (v0 + 2)) (σ (v0 + 1) g) := by
  unfold rch
  rcases (show g = 0 ∨ g = 1 ∨ g = 2 ∨ g = 3 by omega) with rfl | rfl | rfl | rfl
  · rw [mput_ne (by omega), mput_ne (by omega), mput_ne (by omega), mput_eq]
  · rw [mput_ne (by omega), mput_ne (by omega), mput_eq]
  · rw [mput_ne (by omega), mput_eq]
  · rw [mput_eq]
theorem ne_b2 {n v0 g : Nat} {σ : Mem} (hg : g < 4) : Ne_reach_b2 (n + 1) v0 (nI g) σ = Ne_reach_b2 n v0 (nI (g + 1)) (mput σ (v0 + 3) g (upA (σ (v0 + 2)) (σ (v0 + 1) g))) := by
  rw [Ne_reach_b2, if_neg (i4 hg), if_pos (pmIn_nI hg (by omega)), ne_up]
  show (if pmIn (nI g) 4 = true then _ else none) = _
  rw [if_pos (pmIn_nI hg (by omega)), nI_clamp (by omega), nI_1]
theorem ne_reach {v0 : Nat} {σ : Mem} : Ne_reach v0 σ = some (rch v0 σ) := by
  unfold Ne_reach
  show Ne_reach_b2 (2095 + 1 + 1 + 1 + 1 + 1) v0 (nI 0) σ = _
  have h2 : ∀ (σ : Mem) (k : Nat) (x : Int32), mput σ (v0 + 3) k x (v0 + 2) = σ (v0 + 2) := fun σ k x => mrow_ne (by omega)
  have h1 : ∀ (σ : Mem) (k : Nat) (x : Int32), mput σ (v0 + 3) k x (v0 + 1) = σ (v0 + 1) := fun σ k x => mrow_ne (by omega)
  rw [ne_b2 (by omega), ne_b2 (by omega), ne_b2 (by omega), ne_b2 (by omega), Ne_reach_b2, if_pos (by decide)]
  simp only [h1, h2]
  rfl
def b4 (x : Int32) : Prop := ∃ m, m < 16 ∧ x = nI m
def rowC (s : Nat) : Nat := if 2 ≤ s then s + 5 else s + 3
def nb (s : Nat) : Nat := if 2 ≤ s then 6 else 2
def RelW (σ τ : Mem) : Prop :=
  (∀ s, s < 4 → ∀ g, g < 4 → τ 1 (4 * s + g) = σ (rowC s) g ∧ b4 (σ (rowC s) g)) ∧ (∀ g, g < 4 → σ 5 g = upA (σ 4) (σ 3 g)) ∧ (∀ g, g < 4 → σ 9 g = upA (σ 8) (σ 7 g)) ∧
  (∀ k, k < 16 → τ 2 k = σ 10 k ∧ -1 ≤ σ 10 k ∧ σ 10 k ≤ 7) ∧ ∀ g, g < 4 → (τ 3 g = σ 11 g ∧ 0 ≤ σ 11 g ∧ σ 11 g ≤ 7) ∧ (τ 4 g = σ 12 g ∧ 0 ≤ σ 12 g ∧ σ 12 g ≤ 3)
theorem rowC_v (s : Nat) (hs : s < 4) : (s = 0 ∧ rowC s = 3) ∨ (s = 1 ∧ rowC s = 4) ∨ (s = 2 ∧ rowC s = 7) ∨ (s = 3 ∧ rowC s = 8) := by
  unfold rowC
  split <;> omega
/-- a row changes at one place -/
theorem RelW_row {σ τ σ0 : Mem} {s w : Nat} {y : Int32} (h : RelW σ τ) (h0 : ∀ c, 2 ≤ c → c ≤ 12 → σ0 c = σ c) (hs : s < 4) (hw : w < 4) (hy : b4 y) : RelW (rch (nb s) (mput σ0 (rowC s) w y)) (mput τ 1 (4 * s + w) y) := by
  obtain ⟨a1, a2, a3, a4, a5⟩ := h
  have r0 := rowC_v s hs
  have n0 : nb s = 2 ∨ nb s = 6 := by unfold nb; split <;> omega
  have rng : ∀ c, c ≠ nb s + 3 → c ≠ rowC s → 2 ≤ c → c ≤ 12 → rch (nb s) (mput σ0 (rowC s) w y) c = σ c := fun c q1 q2 q3 q4 => by rw [rch_ne q1, mrow_ne q2, h0 c q3 q4]
  refine ⟨fun s2 hs2 g hg => ?_, fun g hg => ?_, fun g hg => ?_, fun k hk => ?_, fun g hg => ?_⟩
  · have r2 := rowC_v s2 hs2
    rw [rch_ne (by omega)]
    by_cases e : s2 = s ∧ g = w
    · obtain ⟨rfl, rfl⟩ := e
      rw [mput_eq, mput_eq]
      exact ⟨rfl, hy⟩
    · rw [mput_ne (by omega), mput_ne (by omega), h0 _ (by omega) (by omega)]
      exact a1 s2 hs2 g hg
  · by_cases e : nb s = 2
    · rw [e]
      have := rch_at (v0 := 2) (σ := mput σ0 (rowC s) w y) hg
      rw [show (2 + 3 : Nat) = 5 from rfl] at this
      rw [this, rch_ne (show (4 : Nat) ≠ 2 + 3 by omega), rch_ne (show (3 : Nat) ≠ 2 + 3 by omega)]
    · have e6 : nb s = 6 := by omega
      have s2 : 2 ≤ s := by unfold nb at e6; split at e6 <;> omega
      rw [rng 5 (by omega) (by omega) (by omega) (by omega), rng 4 (by omega) (by omega) (by omega) (by omega), rng 3 (by omega) (by omega) (by omega) (by omega)]
      exact a2 g hg
  · by_cases e : nb s = 6
    · rw [e]
      have := rch_at (v0 := 6) (σ := mput σ0 (rowC s) w y) hg
      rw [show (6 + 3 : Nat) = 9 from rfl] at this
      rw [this, rch_ne (show (8 : Nat) ≠ 6 + 3 by omega), rch_ne (show (7 : Nat) ≠ 6 + 3 by omega)]
    · have e2 : nb s = 2 := by omega
      have s2 : ¬ 2 ≤ s := by unfold nb at e2; split at e2 <;> omega
      rw [rng 9 (by omega) (by omega) (by omega) (by omega), rng 8 (by omega) (by omega) (by omega) (by omega), rng 7 (by omega) (by omega) (by omega) (by omega)]
      exact a3 g hg
  · rw [mput_ne (by omega), rng 10 (by omega) (by omega) (by omega) (by omega)]
    exact a4 k hk
  · rw [mput_ne (by omega), mput_ne (by omega), rng 11 (by omega) (by omega) (by omega) (by omega), rng 12 (by omega) (by omega) (by omega) (by omega)]
    exact a5 g hg
/-- cells of the class that stay in a change of its world -/
def FrX (σ σ1 : Mem) : Prop := (∀ c, 13 ≤ c → σ1 c = σ c) ∧ (∀ k, k ≠ 5 → σ1 1 k = σ 1 k) ∧ σ1 0 = σ 0 ∧ σ1 2 = σ 2 ∧ σ1 6 = σ 6
def FrM (τ τ1 : Mem) : Prop := (∀ c, 5 ≤ c → τ1 c = τ c) ∧ τ1 0 = τ 0
theorem isOne_c (v : Int32) : (Ps_isOne v = 0 ∧ Mo_is v 3 = 0 ∧ Ps_isKind v = 0) ∨ ∃ w, w < 4 ∧ v = nI w ∧ Ps_isOne v = 1 ∧ Mo_is v 3 = 1 ∧ Ps_isKind v = 1 := by
  by_cases h0 : v < 0
  · left
    unfold Ps_isOne Mo_is Ps_isKind
    exact ⟨if_pos h0, if_pos h0, if_pos h0⟩
  · obtain ⟨w, hw, rfl⟩ := nI_of h0
    unfold Ps_isOne Mo_is Ps_isKind
    simp only [if_neg h0]
    by_cases h : w < 4
    · right
      have q1 : ¬ (4 : Int32) ≤ nI w := i4 h
      have q2 : ¬ (3 : Int32) < nI w := nI_nlt (a := 3) (b := w) (by omega) (by omega)
      exact ⟨w, h, rfl, by rw [if_neg q1], by rw [if_neg q2], by rw [if_neg q2]⟩
    · left
      have q1 : (4 : Int32) ≤ nI w := nI_le (a := 4) (by omega) hw
      have q2 : (3 : Int32) < nI w := nI_lt (a := 3) (by omega) hw
      exact ⟨by rw [if_pos q1], by rw [if_pos q2], by rw [if_pos q2]⟩
theorem isNum_c (v : Int32) : (Ps_isNumber v = 0 ∧ Mo_is v 7 = 0 ∧ (v < 0 ∨ 7 < v)) ∨ ∃ w, w < 8 ∧ v = nI w ∧ Ps_isNumber v = 1 ∧ Mo_is v 7 = 1 := by
  by_cases h0 : v < 0
  · left
    unfold Ps_isNumber Mo_is
    exact ⟨if_pos h0, if_pos h0, Or.inl h0⟩
  · obtain ⟨w, hw, rfl⟩ := nI_of h0
    unfold Ps_isNumber Mo_is
    simp only [if_neg h0]
    by_cases h : w < 8
    · right
      have q2 : ¬ (7 : Int32) < nI w := nI_nlt (a := 7) (b := w) (by omega) (by omega)
      exact ⟨w, h, rfl, by rw [if_neg q2], by rw [if_neg q2]⟩
    · left
      have q2 : (7 : Int32) < nI w := nI_lt (a := 7) (by omega) hw
      exact ⟨by rw [if_pos q2], by rw [if_pos q2], Or.inr q2⟩
