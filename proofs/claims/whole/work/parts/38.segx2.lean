theorem X_not {σ : Mem} {S : List Int32} {x : Int32} (h : StkX σ (x :: S)) : ∃ σ1, Ju_reckon 33 σ = some σ1 ∧ StkX σ1 ((1 - x) :: S) ∧ σ1 13 3 = σ 13 3 ∧ Fx1 σ σ1 := by
  have hl := h.2.1
  rw [List.length_cons] at hl
  obtain ⟨σ1, a1, a2, a3, a4⟩ := X_pull h
  obtain ⟨σ2, b1, b2, b3, b4⟩ := X_push (1 - x) a2 (by omega)
  refine ⟨σ2, ?_, b2, b3.trans a3, Fx1_tr a4 b4⟩
  unfold Ju_reckon
  rw [a1, Option.bind_some]
  dsimp only
  rw [if_neg (fun q => q rfl), b1]
  rfl
def isSg (c : Int32) : Prop := c = 43 ∨ c = 45 ∨ c = 60 ∨ c = 61 ∨ c = 35
theorem X_bin {σ : Mem} {S : List Int32} {x y c : Int32} (hc : isSg c) (h : StkX σ (y :: x :: S)) : ∃ σ1, Ju_reckon c σ = some σ1 ∧ StkX σ1 (Mo_reckon c x y :: S) ∧ σ1 13 3 = σ 13 3 ∧ Fx1 σ σ1 := by
  have hl := h.2.1
  rw [List.length_cons, List.length_cons] at hl
  obtain ⟨σ1, a1, a2, a3, a4⟩ := X_pull h
  obtain ⟨σ2, b1, b2, b3, b4⟩ := X_pull a2
  obtain ⟨σ3, d1, d2, d3, d4⟩ := X_push (Mo_reckon c x y) b2 (by omega)
  refine ⟨σ3, ?_, d2, d3.trans (b3.trans a3), Fx1_tr a4 (Fx1_tr b4 d4)⟩
  unfold Ju_reckon
  have n33 : ¬ c = 33 := by rcases hc with rfl | rfl | rfl | rfl | rfl <;> decide
  rw [a1, Option.bind_some]
  dsimp only
  rw [if_pos n33, b1, Option.bind_some]
  dsimp only
  unfold Ju_reckon_b99 Ju_reckon_b116 Ju_reckon_b133
  have fin : ∀ z, Mo_reckon c x y = z → (Ju_push z σ2).bind (fun q : Mem => some q) = some σ3 := fun z e => by
    rw [← e, d1]
    rfl
  rcases hc with rfl | rfl | rfl | rfl | rfl
  · exact fin _ rfl
  · exact fin _ rfl
  · show (if y ≤ x then (Ju_push 0 σ2).bind (fun q => some q) else (Ju_push 1 σ2).bind (fun q => some q)) = some σ3
    by_cases e : y ≤ x
    · rw [if_pos e]
      exact fin 0 (show (if y ≤ x then (0 : Int32) else 1) = 0 from if_pos e)
    · rw [if_neg e]
      exact fin 1 (show (if y ≤ x then (0 : Int32) else 1) = 1 from if_neg e)
  · show (if ¬ x = y then (Ju_push 0 σ2).bind (fun q => some q) else (Ju_push 1 σ2).bind (fun q => some q)) = some σ3
    by_cases e : ¬ x = y
    · rw [if_pos e]
      exact fin 0 (show (if ¬ x = y then (0 : Int32) else 1) = 0 from if_pos e)
    · rw [if_neg e]
      exact fin 1 (show (if ¬ x = y then (0 : Int32) else 1) = 1 from if_neg e)
  · show (if x = y then (Ju_push 0 σ2).bind (fun q => some q) else (Ju_push 1 σ2).bind (fun q => some q)) = some σ3
    by_cases e : x = y
    · rw [if_pos e]
      exact fin 0 (show (if x = y then (0 : Int32) else 1) = 0 from if_pos e)
    · rw [if_neg e]
      exact fin 1 (show (if x = y then (0 : Int32) else 1) = 1 from if_neg e)
theorem StkX_res {σ : Mem} {S : List Int32} {y : Int32} (h : StkX σ S) : StkX (mput σ 13 3 y) S := by
  refine ⟨by rw [mput_ne (by omega)]; exact h.1, h.2.1, fun i x hi => ?_⟩
  rw [mput_ne (by omega)]
  exact h.2.2 i x hi
theorem Fx1_res (σ : Mem) (y : Int32) : Fx1 σ (mput σ 13 3 y) := ⟨fun c h1 _ => mrow_ne h1, fun k _ h3 => mput_ne (by omega)⟩
theorem X_colon {σ : Mem} {S : List Int32} {t : Int32} (h : StkX σ S) : ∃ σ1, Ju_branch 58 t σ = some σ1 ∧ StkX σ1 S ∧ σ1 13 3 = t ∧ Fx1 σ σ1 := by
  refine ⟨mput σ 13 3 t, ?_, StkX_res h, mput_eq, Fx1_res σ t⟩
  unfold Ju_branch
  rw [if_neg (fun q => q rfl)]
/-- & and | : c = 38 leaves out at 0, c = 124 at others -/
theorem X_and0 {σ : Mem} {S : List Int32} {x t c : Int32} (hc : (c = 38 ∧ x = 0) ∨ (c = 124 ∧ ¬ x = 0)) (h : StkX σ (x :: S)) : ∃ σ1, Ju_branch c t σ = some σ1 ∧ StkX σ1 (x :: S) ∧ σ1 13 3 = t ∧ Fx1 σ σ1 := by
  have hl := h.2.1
  rw [List.length_cons] at hl
  obtain ⟨σ1, a1, a2, a3, a4⟩ := X_pull h
  obtain ⟨σ2, b1, b2, b3, b4⟩ := X_push x (StkX_res (y := t) a2) (by omega)
  refine ⟨σ2, ?_, b2, b3.trans mput_eq, Fx1_tr a4 (Fx1_tr (Fx1_res _ _) b4)⟩
  have go : Ju_branch_b44 c t x 1 σ1 = some σ2 := by
    unfold Ju_branch_b44 Ju_branch_b56
    rw [if_neg (by decide), if_neg (by decide), if_neg (by rcases hc with ⟨rfl, -⟩ | ⟨rfl, -⟩ <;> decide), b1]
    rfl
  unfold Ju_branch
  rw [if_pos (by rcases hc with ⟨rfl, -⟩ | ⟨rfl, -⟩ <;> decide), a1]
  rw [Option.bind_some]
  dsimp only
  rcases hc with ⟨rfl, rfl⟩ | ⟨rfl, hx⟩
  · exact go
  · rw [if_neg (fun q => q rfl), if_neg hx]
    exact go
theorem X_and1 {σ : Mem} {S : List Int32} {x t c : Int32} (hc : (c = 38 ∧ ¬ x = 0) ∨ (c = 124 ∧ x = 0) ∨ (c = 91 ∧ ¬ x = 0)) (h : StkX σ (x :: S)) : ∃ σ1, Ju_branch c t σ = some σ1 ∧ StkX σ1 S ∧ σ1 13 3 = σ 13 3 ∧ Fx1 σ σ1 := by
  obtain ⟨σ1, a1, a2, a3, a4⟩ := X_pull h
  refine ⟨σ1, ?_, a2, a3, a4⟩
  have go : Ju_branch_b44 c t x 0 σ1 = some σ1 := rfl
  unfold Ju_branch
  rw [if_pos (by rcases hc with ⟨rfl, -⟩ | ⟨rfl, -⟩ | ⟨rfl, -⟩ <;> decide), a1]
  rw [Option.bind_some]
  dsimp only
  rcases hc with ⟨rfl, hx⟩ | ⟨rfl, rfl⟩ | ⟨rfl, hx⟩
  · rw [if_pos (show ¬ (38 : Int32) = 124 by decide), if_pos hx]
    exact go
  · exact go
  · rw [if_pos (show ¬ (91 : Int32) = 124 by decide), if_pos hx]
    exact go
theorem X_opt0 {σ : Mem} {S : List Int32} {t : Int32} (h : StkX σ (0 :: S)) : ∃ σ1, Ju_branch 91 t σ = some σ1 ∧ StkX σ1 S ∧ σ1 13 3 = t ∧ Fx1 σ σ1 := by
  obtain ⟨σ1, a1, a2, a3, a4⟩ := X_pull h
  refine ⟨mput σ1 13 3 t, ?_, StkX_res a2, mput_eq, Fx1_tr a4 (Fx1_res _ _)⟩
  unfold Ju_branch
  rw [if_pos (by decide), a1]
  rfl
def dNot (e : Mem → Nat → Option Int32) : Mem → Nat → Option Int32 := fun σw r => (e σw r).bind fun x => some (1 - x)
def dBin (c : Int32) (e1 e2 : Mem → Nat → Option Int32) : Mem → Nat → Option Int32 := fun σw r => (e1 σw r).bind fun x => (e2 σw r).bind fun y => some (Mo_reckon c x y)
def dAnd (e1 e2 : Mem → Nat → Option Int32) : Mem → Nat → Option Int32 := fun σw r => (e1 σw r).bind fun x => if x = 0 then some x else e2 σw r
def dOr (e1 e2 : Mem → Nat → Option Int32) : Mem → Nat → Option Int32 := fun σw r => (e1 σw r).bind fun x => if x = 0 then e2 σw r else some x
def dCh (e1 e2 e3 : Mem → Nat → Option Int32) : Mem → Nat → Option Int32 := fun σw r => (e1 σw r).bind fun x => if x = 0 then e3 σw r else e2 σw r
theorem SegX_not {k w : Nat → Int32} {i j a : Nat} {e : Mem → Nat → Option Int32} (h : SegX k w i j a e) (hk : k j = 33) : SegX k w i (j + 1) a (dNot e) := by
  obtain ⟨hij, ha, h⟩ := h
  refine ⟨by omega, ha, ?_⟩
  intro p m n r σw σ S ρ hp hr hw hW hC hS hl h3 hρ
  have c1 := CodeX_sub (i1 := i) (j1 := j) hC (by omega) (by omega)
  obtain ⟨A, B⟩ := h p m (n + 1) r σw σ S ρ hp hr hw hW c1 hS hl h3 hρ
  rw [show n + (j + 1 - i) = n + 1 + (j - i) by omega]
  unfold dNot
  cases he : e σw r with
  | none =>
    refine ⟨fun _ => A he, fun v hv => ?_⟩
    cases hv
  | some x =>
    refine ⟨(fun q => (by cases q)), fun v hv => ?_⟩
    cases hv
    obtain ⟨σ1, ρ1, s1, s2, s3, s4, s5⟩ := B x he
    obtain ⟨σ2, t1, t2, t3, t4⟩ := X_not s2
    refine ⟨σ2, ρ1, ?_, t2, t3.trans s3, by omega, Fx1_tr s5 t4⟩
    rw [s1, x_at (CodeX_sub (i1 := j) (j1 := j + 1) (CodeX_Fx hp hC s5) (by omega) (by omega)) (by omega) s3 s4, hk, if_pos (Or.inl rfl), t1]
    rfl
theorem SegX_bin {k w : Nat → Int32} {i j l a b : Nat} {e1 e2 : Mem → Nat → Option Int32} {c : Int32} (hc : isSg c) (h1 : SegX k w i j a e1) (h2 : SegX k w j l b e2) (hk : k l = c) : SegX k w i (l + 1) (a + b) (dBin c e1 e2) := by
  obtain ⟨hij, ha, h1⟩ := h1
  obtain ⟨hjl, hb, h2⟩ := h2
  refine ⟨by omega, by omega, ?_⟩
  intro p m n r σw σ S ρ hp hr hw hW hC hS hl h3 hρ
  have c1 := CodeX_sub (i1 := i) (j1 := j) hC (by omega) (by omega)
  obtain ⟨A, B⟩ := h1 p m (n + 1 + (l - j)) r σw σ S ρ hp hr hw hW c1 hS (by omega) h3 hρ
  rw [show n + (l + 1 - i) = n + 1 + (l - j) + (j - i) by omega]
  unfold dBin
  cases he : e1 σw r with
  | none =>
    refine ⟨fun _ => A he, fun v hv => ?_⟩
    cases hv
  | some x =>
    obtain ⟨σ1, ρ1, s1, s2, s3, s4, s5⟩ := B x he
    obtain ⟨A2, B2⟩ := h2 p m (n + 1) r σw σ1 (x :: S) ρ1 hp hr hw (WldX_Fx hW s5) (CodeX_sub (CodeX_Fx hp hC s5) (by omega) (by omega)) s2 (by rw [List.length_cons]; omega) s3 s4
    rw [s1]
    cases hf : e2 σw r with
    | none =>
      obtain ⟨σ2, t1, t2⟩ := A2 hf
      refine ⟨fun _ => ⟨σ2, t1, Fx1_tr s5 t2⟩, fun v hv => ?_⟩
      cases hv
    | some y =>
      refine ⟨(fun q => (by cases q)), fun v hv => ?_⟩
      cases hv
      obtain ⟨σ2, ρ2, t1, t2, t3, t4, t5⟩ := B2 y hf
      obtain ⟨σ3, u1, u2, u3, u4⟩ := X_bin hc t2
      refine ⟨σ3, ρ2, ?_, u2, u3.trans t3, by omega, Fx1_tr s5 (Fx1_tr t5 u4)⟩
      rw [t1, x_at (CodeX_sub (i1 := l) (j1 := l + 1) (CodeX_Fx hp (CodeX_Fx hp hC s5) t5) (by omega) (by omega)) (by omega) t3 t4, hk, if_pos (by rcases hc with rfl | rfl | rfl | rfl | rfl <;> decide), u1]
      rfl
