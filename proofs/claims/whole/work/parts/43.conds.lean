abbrev Den : Type := Mem → Nat → Option Int32
/-- 0 fails, 1 applies, 2 errs -/
def vd : List (Den × Bool) → Mem → Nat → Int32
  | [], _, _ => 1
  | (e, u) :: cs, σw, r => match e σw r with
    | none => 2
    | some v => if (v = 0 ↔ u = true) then vd cs σw r else 0
def CondsX (k w : Nat → Int32) (m : Nat) : Nat → List (Den × Bool) → Prop
  | i, [] => i = m
  | i, (e, u) :: cs => ∃ q a, SegX k w i q a e ∧ a ≤ 12 ∧ Tr01 e ∧ (if u = true then q + 2 ≤ m ∧ k q = 33 ∧ k (q + 1) = 63 ∧ CondsX k w m (q + 2) cs else q + 1 ≤ m ∧ k q = 63 ∧ CondsX k w m (q + 1) cs)
def CondsM (k w : Nat → Int32) (m : Nat) : Nat → List (Den × Bool) → Prop
  | i, [] => i = m
  | i, (e, u) :: cs => ∃ q a, SegM k w i q a e ∧ a ≤ 12 ∧ Tr01 e ∧ q + 1 ≤ m ∧ k q = (if u = true then 6 else 5) ∧ CondsM k w m (q + 1) cs
theorem CondsX_le {k w : Nat → Int32} {m : Nat} : ∀ (cs : List (Den × Bool)) (i : Nat), CondsX k w m i cs → i ≤ m
  | [], i, h => Nat.le_of_eq h
  | (e, u) :: cs, i, h => by
    obtain ⟨q, a, h1, -, -, h2⟩ := h
    have := h1.1
    split at h2 <;> omega
theorem CondsM_le {k w : Nat → Int32} {m : Nat} : ∀ (cs : List (Den × Bool)) (i : Nat), CondsM k w m i cs → i ≤ m
  | [], i, h => Nat.le_of_eq h
  | (e, u) :: cs, i, h => by
    obtain ⟨q, a, h1, -, -, h2, -⟩ := h
    have := h1.1
    omega
theorem vd_012 : ∀ (cs : List (Den × Bool)) (σw : Mem) (r : Nat), vd cs σw r = 0 ∨ vd cs σw r = 1 ∨ vd cs σw r = 2
  | [], _, _ => Or.inr (Or.inl rfl)
  | (e, u) :: cs, σw, r => by
    unfold vd
    cases e σw r with
    | none => exact Or.inr (Or.inr rfl)
    | some v =>
      dsimp only
      split
      · exact vd_012 cs σw r
      · exact Or.inl rfl
theorem StkX_nil {σ : Mem} (h : σ 13 2 = 0) : StkX σ [] := ⟨h, by decide, fun i y hi => by cases i <;> cases hi⟩
theorem X_conds {p m r : Nat} {k w : Nat → Int32} {σw : Mem} (hp : isPo p) (hr : r < 2048) (hw : OkW σw) : ∀ (cs : List (Den × Bool)) (i n : Nat) (σ : Mem) (ρ : Nat), CondsX k w m i cs → WldX σw σ → CodeX σ p m 0 m k w → StkX σ [] → σ 13 3 = nI ρ → ρ ≤ i →
    ∃ σ1, Ju_conditions_b12 (n + (m - i) + 1) p (nI r) (nI i) σ = some (vd cs σw r, σ1) ∧ Fx1 σ σ1
  | [], i, n, σ, ρ, h, hW, hC, hS, h3, hρ => by
    have e : i = m := h
    subst e
    refine ⟨σ, ?_, Fx1_rf σ⟩
    have c1 : σ p 9 ≤ nI i := by
      rw [hC.1]
      exact nI_le (Nat.le_refl _) (by have := hC.2.2.1; omega)
    rw [Ju_conditions_b12, if_pos c1]
    rfl
  | (e, u) :: cs, i, n, σ, ρ, h, hW, hC, hS, h3, hρ => by
    obtain ⟨q, a, sg, ha, tr, h2⟩ := h
    have iq := sg.1
    have mm := hC.2.2.1
    unfold vd
    by_cases hu : u = true
    · rw [if_pos hu] at h2
      obtain ⟨hq, k1, k2, h2⟩ := h2
      have C0 := CodeX_sub (i1 := i) (j1 := q) hC (by omega) (by omega)
      obtain ⟨A, B⟩ := sg.2.2 p m (n + (m - (q + 2)) + 1 + 2) r σw σ [] ρ hp hr hw hW C0 hS (by simpa using ha) h3 hρ
      rw [show n + (m - i) + 1 = n + (m - (q + 2)) + 1 + 2 + (q - i) by omega]
      cases he : e σw r with
      | none => exact A he
      | some v =>
        obtain ⟨σ1, ρ1, s1, s2, s3, s4, s5⟩ := B v he
        have C1 := CodeX_Fx hp hC s5
        obtain ⟨σ2, t1, t2, t3, t4⟩ := X_not s2
        have C2 := CodeX_Fx hp C1 t4
        obtain ⟨σ3, u1, u2, u3, u4⟩ := X_pull t2
        have st1 := x_at (n := n + (m - (q + 2)) + 1 + 1) (r := r) (CodeX_sub (i1 := q) (j1 := q + 1) C1 (by omega) (by omega)) (by omega) s3 s4
        rw [k1, if_pos (Or.inl rfl), t1, Option.bind_some] at st1
        have st2 := x_at (n := n + (m - (q + 2)) + 1) (r := r) (CodeX_sub (i1 := q + 1) (j1 := q + 2) C2 (by omega) (by omega)) (by omega) (t3.trans s3) (show ρ1 ≤ q + 1 by omega)
        rw [k2, if_neg (by decide), if_neg (by decide), if_pos rfl, u1, Option.bind_some] at st2
        dsimp only at st2 ⊢
        rw [s1, st1, st2]
        have F3 := Fx1_tr s5 (Fx1_tr t4 u4)
        rcases tr σw r hw hr v he with rfl | rfl
        · rw [if_pos (show ((0 : Int32) = 0 ↔ u = true) from ⟨fun _ => hu, fun _ => rfl⟩), if_pos (show ¬ (1 - 0 : Int32) = 0 by decide)]
          obtain ⟨σ4, v1, v2⟩ := X_conds hp hr hw cs (q + 2) n σ3 ρ1 h2 (WldX_Fx hW F3) (CodeX_Fx hp hC F3) u2 (u3.trans (t3.trans s3)) (by omega)
          exact ⟨σ4, v1, Fx1_tr F3 v2⟩
        · rw [if_neg (show ¬ ((1 : Int32) = 0 ↔ u = true) from fun z => absurd (z.mpr hu) (by decide)), if_neg (show ¬ ¬ (1 - 1 : Int32) = 0 by decide)]
          exact ⟨σ3, rfl, F3⟩
    · rw [if_neg hu] at h2
      obtain ⟨hq, k1, h2⟩ := h2
      have C0 := CodeX_sub (i1 := i) (j1 := q) hC (by omega) (by omega)
      obtain ⟨A, B⟩ := sg.2.2 p m (n + (m - (q + 1)) + 1 + 1) r σw σ [] ρ hp hr hw hW C0 hS (by simpa using ha) h3 hρ
      rw [show n + (m - i) + 1 = n + (m - (q + 1)) + 1 + 1 + (q - i) by omega]
      cases he : e σw r with
      | none => exact A he
      | some v =>
        obtain ⟨σ1, ρ1, s1, s2, s3, s4, s5⟩ := B v he
        have C1 := CodeX_Fx hp hC s5
        obtain ⟨σ3, u1, u2, u3, u4⟩ := X_pull s2
        have st2 := x_at (n := n + (m - (q + 1)) + 1) (r := r) (CodeX_sub (i1 := q) (j1 := q + 1) C1 (by omega) (by omega)) (by omega) s3 s4
        rw [k1, if_neg (by decide), if_neg (by decide), if_pos rfl, u1, Option.bind_some] at st2
        dsimp only at st2 ⊢
        rw [s1, st2]
        have F3 := Fx1_tr s5 u4
        rcases tr σw r hw hr v he with rfl | rfl
        · rw [if_neg (show ¬ ((0 : Int32) = 0 ↔ u = true) from fun z => hu (z.mp rfl)), if_neg (show ¬ ¬ (0 : Int32) = 0 from fun z => z rfl)]
          exact ⟨σ3, rfl, F3⟩
        · rw [if_pos (show ((1 : Int32) = 0 ↔ u = true) from ⟨fun z => absurd z (by decide), fun z => absurd z hu⟩), if_pos (show ¬ (1 : Int32) = 0 by decide)]
          obtain ⟨σ4, v1, v2⟩ := X_conds hp hr hw cs (q + 1) n σ3 ρ1 h2 (WldX_Fx hW F3) (CodeX_Fx hp hC F3) u2 (u3.trans s3) (by omega)
          exact ⟨σ4, v1, Fx1_tr F3 v2⟩
def vM (x : Int32) : Int32 := if x = 2 then -1 else x
theorem M_conds {p m r : Nat} {k w : Nat → Int32} {σw τw : Mem} (hr : r < 2048) (hw : RelW σw τw) : ∀ (cs : List (Den × Bool)) (i : Nat) (τ : Mem), CondsM k w m i cs → WldM τw τ → CodeM τ p m 0 m k w →
    ∃ τ1 f, f ≤ m - i + 1 ∧ (∀ n, Mo_work_b88 (n + f) (nI p) (nI r) (nI 0) (nI i) τ = some (vM (vd cs σw r), τ1)) ∧ FxM τ τ1
  | [], i, τ, h, hW, hC => by
    have e : i = m := h
    subst e
    refine ⟨τ, 1, by omega, fun n => ?_, FxM_rf τ⟩
    have h0 := hC.1
    have c1 : τ 11 p ≤ nI i := by
      rw [hC.2.1]
      exact nI_le (Nat.le_refl _) (by have := hC.2.2.2.1; omega)
    rw [Mo_work_b88, if_pos (pmIn_nI h0 (by omega)), nI_clamp (by omega), if_pos c1]
    rfl
  | (e, u) :: cs, i, τ, h, hW, hC => by
    obtain ⟨q, a, sg, ha, tr, hq, k1, h2⟩ := h
    have iq := sg.1
    have hS : StkM τ [] := fun i y hi => by cases i <;> cases hi
    obtain ⟨A, B⟩ := sg.2.2 p m r σw τw τ [] hr hw hW (CodeM_sub hC (by omega) (by omega)) hS (by simp only [List.length_nil]; omega)
    unfold vd
    cases he : e σw r with
    | none =>
      obtain ⟨τ1, f, hf, s1, s2⟩ := A he
      exact ⟨τ1, f, by omega, s1, s2⟩
    | some v =>
      obtain ⟨τ1, f, hf, s1, s2, s3⟩ := B v he
      have C1 := CodeM_Fx hC s3
      have st := fun n => m_when (n := n) (r := r) (S := []) (CodeM_sub (i1 := q) (j1 := q + 1) C1 (by omega) (by omega)) (by omega) k1 (by split <;> decide) s2 (by decide)
      dsimp only
      have key : (v = 1 ↔ (if u = true then (6 : Int32) else 5) = 5) ↔ (v = 0 ↔ u = true) := by
        rcases tr σw r ⟨τw, hw⟩ hr v he with rfl | rfl <;> cases u <;> decide
      by_cases z : (v = 0 ↔ u = true)
      · rw [if_pos z]
        obtain ⟨τ2, g, hg, t1, t2⟩ := M_conds hr hw cs (q + 1) τ1 h2 (WldM_Fx hW s3) C1
        have := CondsM_le cs (q + 1) h2
        refine ⟨τ2, f + g + 1, by omega, fun n => ?_, FxM_tr s3 t2⟩
        rw [show n + (f + g + 1) = n + g + 1 + f by omega]
        refine (s1 (n + g + 1)).trans ((st (n + g)).trans ?_)
        rw [if_pos (key.mpr z)]
        exact t1 n
      · rw [if_neg z]
        refine ⟨τ1, f + 1, by omega, fun n => ?_, s3⟩
        rw [show n + (f + 1) = n + 1 + f by omega]
        refine (s1 (n + 1)).trans ((st n).trans ?_)
        rw [if_neg (fun y => z (key.mp y))]
        rfl
