/-- the class's world as it must be -/
def OkW (σ : Mem) : Prop := ∃ τ, RelW σ τ
/-- a policy at p whose steps i .. j-1 are k, w -/
def CodeX (σ : Mem) (p m i j : Nat) (k w : Nat → Int32) : Prop := σ p 9 = nI m ∧ j ≤ m ∧ m ≤ 160 ∧ ∀ q, i ≤ q → q < j → σ (p + 1) q = k q ∧ σ (p + 2) q = w q
def WldX (σw σ : Mem) : Prop := ∀ c, 2 ≤ c → c ≤ 12 → σ c = σw c
theorem po_ne {p : Nat} (h : isPo p) : 19 ≤ p ∧ p < 112 := by
  unfold isPo isPoB at h
  simp only [Bool.or_eq_true, Bool.and_eq_true, Nat.ble_eq, Nat.blt_eq] at h
  omega
theorem CodeX_Fx {σ σ1 : Mem} {p m i j : Nat} {k w : Nat → Int32} (hp : isPo p) (h : CodeX σ p m i j k w) (hf : Fx1 σ σ1) : CodeX σ1 p m i j k w := by
  have h0 := po_ne hp
  obtain ⟨h1, h2, h3, h4⟩ := h
  refine ⟨by rw [hf.1 p (by omega) (by omega)]; exact h1, h2, h3, fun q a b => ?_⟩
  rw [hf.1 (p + 1) (by omega) (by omega), hf.1 (p + 2) (by omega) (by omega)]
  exact h4 q a b
theorem WldX_Fx {σw σ σ1 : Mem} (h : WldX σw σ) (hf : Fx1 σ σ1) : WldX σw σ1 := fun c a b => (hf.1 c (by omega) (by omega)).trans (h c a b)
theorem CodeX_sub {σ : Mem} {p m i j i1 j1 : Nat} {k w : Nat → Int32} (h : CodeX σ p m i j k w) (h1 : i ≤ i1) (h2 : j1 ≤ j) : CodeX σ p m i1 j1 k w := ⟨h.1, Nat.le_trans h2 h.2.1, h.2.2.1, fun q a b => h.2.2.2 q (by omega) (by omega)⟩
/-- steps i .. j-1 put one value on the pile, or err -/
def SegX (k w : Nat → Int32) (i j a : Nat) (e : Mem → Nat → Option Int32) : Prop := i ≤ j ∧ 1 ≤ a ∧ ∀ (p m n r : Nat) (σw σ : Mem) (S : List Int32) (ρ : Nat), isPo p → r < 2048 → OkW σw → WldX σw σ → CodeX σ p m i j k w → StkX σ S → S.length + a ≤ 12 → σ 13 3 = nI ρ → ρ ≤ i →
  (e σw r = none → ∃ σ1, Ju_conditions_b12 (n + (j - i)) p (nI r) (nI i) σ = some (2, σ1) ∧ Fx1 σ σ1) ∧
  ∀ v, e σw r = some v → ∃ σ1 ρ1, Ju_conditions_b12 (n + (j - i)) p (nI r) (nI i) σ = Ju_conditions_b12 n p (nI r) (nI j) σ1 ∧ StkX σ1 (v :: S) ∧ σ1 13 3 = nI ρ1 ∧ ρ1 ≤ j ∧ Fx1 σ σ1
section XS
variable {σ σw : Mem} {p m n r i j : Nat} {k w : Nat → Int32} {ρ : Nat} {S : List Int32}
/-- steps that are left out -/
theorem x_skip : ∀ (q i n : Nat), CodeX σ p m i (i + q) k w → σ 13 3 = nI ρ → i + q ≤ ρ → ρ ≤ 160 → Ju_conditions_b12 (n + q) p (nI r) (nI i) σ = Ju_conditions_b12 n p (nI r) (nI (i + q)) σ
  | 0, i, n, _, _, _, _ => rfl
  | q + 1, i, n, h, hr, hl, hb => by
    have h2 := h.2.1
    have h3 := h.2.2.1
    have c1 : ¬ σ p 9 ≤ nI i := by
      rw [h.1]
      exact nI_ge (a := i) (b := m) (by omega) (by omega)
    have c2 : ¬ σ 13 3 ≤ nI i := by
      rw [hr]
      exact nI_ge (a := i) (b := ρ) (by omega) (by omega)
    rw [show n + (q + 1) = (n + q) + 1 by omega, Ju_conditions_b12, if_neg c1, if_neg c2, nI_1, x_skip q (i + 1) n (CodeX_sub (j := i + (q + 1)) h (by omega) (by omega)) hr (by omega) hb, show i + 1 + q = i + (q + 1) by omega]
/-- one step that isn't left out -/
theorem x_at (h : CodeX σ p m i j k w) (hij : i < j) (hr : σ 13 3 = nI ρ) (hl : ρ ≤ i) : Ju_conditions_b12 (n + 1) p (nI r) (nI i) σ =
    (if k i = 33 ∨ k i = 35 ∨ k i = 43 ∨ k i = 45 ∨ k i = 60 ∨ k i = 61 then
      (Ju_reckon (k i) σ).bind fun q162 => Ju_conditions_b12 n p (nI r) (nI (i + 1)) q162
    else if k i = 38 ∨ k i = 58 ∨ k i = 91 ∨ k i = 124 then
      (Ju_branch (k i) (w i) σ).bind fun q153 => Ju_conditions_b12 n p (nI r) (nI (i + 1)) q153
    else if k i = 63 then
      (Ju_pull σ).bind fun q169 => if ¬ q169.1 = 0 then Ju_conditions_b12 n p (nI r) (nI (i + 1)) q169.2 else some (0, q169.2)
    else
      (Wo_valueOf (k i) (w i) (nI r) σ).bind fun q186 => if ¬ q186 = (-1) then (Ju_push q186 σ).bind fun q202 => Ju_conditions_b12 n p (nI r) (nI (i + 1)) q202 else some (2, σ)) := by
  have h2 := h.2.1
  have h3 := h.2.2.1
  have c1 : ¬ σ p 9 ≤ nI i := by
    rw [h.1]
    exact nI_ge (a := i) (b := m) (by omega) (by omega)
  have c2 : σ 13 3 ≤ nI i := by
    rw [hr]
    exact nI_le hl (by omega)
  have pin : pmIn (nI i) 160 = true := pmIn_nI (by omega) (by omega)
  obtain ⟨e1, e2⟩ := h.2.2.2 i (by omega) hij
  rw [Ju_conditions_b12, if_neg c1, if_pos c2, if_pos pin, if_pos pin, nI_clamp (by omega), e1, e2, nI_1]
end XS
/-- atoms -/
def isAt (x : Int32) : Prop := ¬ (x = 33 ∨ x = 35 ∨ x = 43 ∨ x = 45 ∨ x = 60 ∨ x = 61) ∧ ¬ (x = 38 ∨ x = 58 ∨ x = 91 ∨ x = 124) ∧ ¬ x = 63
theorem val_w {σw σ : Mem} (h : WldX σw σ) (x y z : Int32) : Wo_valueOf x y z σ = Wo_valueOf x y z σw := by
  unfold Wo_valueOf Ne_holdersOf
  rw [h (6 + 3) (by omega) (by omega), h (2 + 3) (by omega) (by omega), h 10 (by omega) (by omega), h 11 (by omega) (by omega), h 12 (by omega) (by omega)]
def dAt (x y : Int32) : Mem → Nat → Option Int32 := fun σw r => match Wo_valueOf x y (nI r) σw with
  | some v => if v = -1 then none else some v
  | none => none
theorem SegX_at {k w : Nat → Int32} {i : Nat} (ha : isAt (k i)) (hv : ∀ σw r, OkW σw → r < 2048 → ∃ v, Wo_valueOf (k i) (w i) (nI r) σw = some v) : SegX k w i (i + 1) 1 (dAt (k i) (w i)) := by
  refine ⟨by omega, by omega, ?_⟩
  intro p m n r σw σ S ρ hp hr hw hW hC hS hl h3 hρ
  obtain ⟨v, ev⟩ := hv σw r hw hr
  have st := x_at (n := n) (r := r) hC (by omega) h3 hρ
  rw [if_neg ha.1, if_neg ha.2.1, if_neg ha.2.2, val_w hW, ev] at st
  rw [show i + 1 - i = 1 by omega]
  unfold dAt
  rw [ev]
  dsimp only
  by_cases e : v = -1
  · subst e
    refine ⟨fun _ => ⟨σ, st.trans rfl, Fx1_rf σ⟩, fun v hv => ?_⟩
    rw [if_pos rfl] at hv
    cases hv
  · refine ⟨fun q => ?_, fun x hx => ?_⟩
    · rw [if_neg e] at q
      cases q
    · rw [if_neg e] at hx
      cases hx
      obtain ⟨σ1, p1, p2, p3, p4⟩ := X_push v hS (by omega)
      refine ⟨σ1, ρ, ?_, p2, p3.trans h3, by omega, p4⟩
      rw [st]
      show (if ¬ v = -1 then (Ju_push v σ).bind _ else _) = _
      rw [if_pos e, p1]
      rfl
