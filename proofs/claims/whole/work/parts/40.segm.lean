def StkM (τ : Mem) (S : List Int32) : Prop := ∀ (i : Nat) (y : Int32), S.reverse[i]? = some y → τ 41 i = y
def FxM (τ τ1 : Mem) : Prop := ∀ c, c ≠ 41 → τ1 c = τ c
theorem FxM_rf (τ : Mem) : FxM τ τ := fun _ _ => rfl
theorem FxM_tr {a b c : Mem} (h1 : FxM a b) (h2 : FxM b c) : FxM a c := fun q x => (h2 q x).trans (h1 q x)
theorem FxM_put (τ : Mem) (i : Nat) (y : Int32) : FxM τ (mput τ 41 i y) := fun _ h => mrow_ne h
def CodeM (τ : Mem) (p m i j : Nat) (k w : Nat → Int32) : Prop := p < 17 ∧ τ 11 p = nI m ∧ j ≤ m ∧ m ≤ 160 ∧ ∀ q, i ≤ q → q < j → τ 12 (160 * p + q) = k q ∧ τ 13 (160 * p + q) = w q
def WldM (τw τ : Mem) : Prop := ∀ c, 1 ≤ c → c ≤ 4 → τ c = τw c
theorem CodeM_Fx {τ τ1 : Mem} {p m i j : Nat} {k w : Nat → Int32} (h : CodeM τ p m i j k w) (hf : FxM τ τ1) : CodeM τ1 p m i j k w := by
  obtain ⟨h0, h1, h2, h3, h4⟩ := h
  refine ⟨h0, by rw [hf 11 (by omega)]; exact h1, h2, h3, fun q a b => ?_⟩
  rw [hf 12 (by omega), hf 13 (by omega)]
  exact h4 q a b
theorem WldM_Fx {τw τ τ1 : Mem} (h : WldM τw τ) (hf : FxM τ τ1) : WldM τw τ1 := fun c a b => (hf c (by omega)).trans (h c a b)
theorem CodeM_sub {τ : Mem} {p m i j i1 j1 : Nat} {k w : Nat → Int32} (h : CodeM τ p m i j k w) (h1 : i ≤ i1) (h2 : j1 ≤ j) : CodeM τ p m i1 j1 k w := ⟨h.1, h.2.1, Nat.le_trans h2 h.2.2.1, h.2.2.2.1, fun q a b => h.2.2.2.2 q (by omega) (by omega)⟩
theorem M_push {τ : Mem} {S : List Int32} (y : Int32) (h : StkM τ S) : StkM (mput τ 41 S.length y) (y :: S) := by
  intro i x hi
  by_cases e : i = S.length
  · subst e
    rw [rev_top] at hi
    cases hi
    rw [mput_eq]
  · have := rev_lt hi
    rw [List.length_cons] at this
    rw [mput_ne (by omega)]
    rw [rev_low (by omega)] at hi
    exact h i x hi
theorem M_pop {τ : Mem} {S : List Int32} {y : Int32} (h : StkM τ (y :: S)) : StkM τ S := fun i x hi => h i x (by rw [rev_low (rev_lt hi)]; exact hi)
theorem M_top {τ : Mem} {S : List Int32} {y : Int32} (h : StkM τ (y :: S)) : τ 41 S.length = y := h _ _ (rev_top y S)
section MS
variable {τ : Mem} {p m n r i j : Nat} {k w : Nat → Int32} {S : List Int32} {x y : Int32}
theorem m_base {h : Int32} (hC : CodeM τ p m i j k w) (hij : i < j) : Mo_work_b88 (n + 1) (nI p) (nI r) h (nI i) τ =
    (if k i = 5 then Mo_work_b145 (Mo_work_b88 n) (nI p) (nI r) h (nI (i + 1)) (k i) τ
    else if ¬ k i = 6 then
      if ¬ k i = 4 then
        if ¬ k i = 3 then
          if k i = 1 then Mo_work_b236 (Mo_work_b88 n) (nI p) (nI r) h (nI (i + 1)) (k i) (w i) τ
          else if ¬ k i = 2 then
            if ¬ k i = 33 then
              if (Mo_isSign (k i)) = 0 then
                (Mo_valueOf (k i) (w i) (nI r) τ).bind fun q387 => if 0 ≤ q387 then (if pmIn h 40 = true then Mo_work_b88 n (nI p) (nI r) (h + 1) (nI (i + 1)) (mput τ 41 h.toNatClampNeg q387) else none) else some ((-1), τ)
              else
                if pmIn ((h + (-1)) - 1) 40 = true then
                if pmIn (h + (-1)) 40 = true then
                if pmIn ((h + (-1)) - 1) 40 = true then
                Mo_work_b88 n (nI p) (nI r) (h + (-1)) (nI (i + 1)) (mput τ 41 ((h + (-1)) - 1).toNatClampNeg (Mo_reckon (k i) (τ 41 ((h + (-1)) - 1).toNatClampNeg) (τ 41 (h + (-1)).toNatClampNeg)))
                else none
                else none
                else none
            else
              if pmIn (h - 1) 40 = true then
              if pmIn (h - 1) 40 = true then
              Mo_work_b88 n (nI p) (nI r) h (nI (i + 1)) (mput τ 41 (h - 1).toNatClampNeg (1 - (τ 41 (h - 1).toNatClampNeg)))
              else none
              else none
          else Mo_work_b236 (Mo_work_b88 n) (nI p) (nI r) h (nI (i + 1)) (k i) (w i) τ
        else
          if pmIn (h + (-1)) 40 = true then
          if ¬ (τ 41 (h + (-1)).toNatClampNeg) = 0 then Mo_work_b88 n (nI p) (nI r) (h + (-1)) (nI (i + 1)) τ
          else Mo_work_b88 n (nI p) (nI r) (h + (-1)) (w i) τ
          else none
      else Mo_work_b88 n (nI p) (nI r) h (w i) τ
    else Mo_work_b145 (Mo_work_b88 n) (nI p) (nI r) h (nI (i + 1)) (k i) τ) := by
  obtain ⟨h0, h1, h2, h3, h4⟩ := hC
  have c1 : ¬ τ 11 p ≤ nI i := by
    rw [h1]
    exact nI_ge (a := i) (b := m) (by omega) (by omega)
  have pin : pmIn (nI (160 * p + i)) 2720 = true := pmIn_nI (by omega) (by omega)
  have ex : (160 : Int32) * nI p + nI i = nI (160 * p + i) := by
    rw [show (160 : Int32) = nI 160 from rfl, pk_mul, nI_add]
  obtain ⟨e1, e2⟩ := h4 i (by omega) hij
  rw [Mo_work_b88, if_pos (pmIn_nI h0 (by omega)), nI_clamp (show p < 2 ^ 31 by omega), if_neg c1, ex, if_pos pin, if_pos pin, nI_clamp (show 160 * p + i < 2 ^ 31 by omega), e1, e2, nI_1]
theorem m_go {h t : Nat} (hC : CodeM τ p m i j k w) (hij : i < j) (hk : k i = 4) (hw : w i = nI t) : Mo_work_b88 (n + 1) (nI p) (nI r) (nI h) (nI i) τ = Mo_work_b88 n (nI p) (nI r) (nI h) (nI t) τ := by
  rw [m_base hC hij, hk, if_neg (by decide), if_pos (by decide), if_neg (by decide), hw]
theorem m_take {t : Nat} (hC : CodeM τ p m i j k w) (hij : i < j) (hk : k i = 3) (hw : w i = nI t) (hS : StkM τ (x :: S)) (hl : S.length < 40) : Mo_work_b88 (n + 1) (nI p) (nI r) (nI (S.length + 1)) (nI i) τ = if x = 0 then Mo_work_b88 n (nI p) (nI r) (nI S.length) (nI t) τ else Mo_work_b88 n (nI p) (nI r) (nI S.length) (nI (i + 1)) τ := by
  rw [m_base hC hij, hk, if_neg (by decide), if_pos (by decide), if_pos (by decide), if_neg (by decide), pk_m1, if_pos (pmIn_nI hl (by omega)), nI_clamp (by omega), M_top hS, hw]
  by_cases e : x = 0
  · rw [if_pos e, if_neg (fun q => q e)]
  · rw [if_neg e, if_pos e]
theorem m_236 {t : Nat} {c : Int32} (hS : StkM τ (x :: S)) (hl : S.length < 40) (hc : c = 1 ∨ c = 2) : Mo_work_b236 (Mo_work_b88 n) (nI p) (nI r) (nI (S.length + 1)) (nI (i + 1)) c (nI t) τ = if (x = 0 ↔ c = 1) then Mo_work_b88 n (nI p) (nI r) (nI (S.length + 1)) (nI t) τ else Mo_work_b88 n (nI p) (nI r) (nI S.length) (nI (i + 1)) τ := by
  unfold Mo_work_b236
  rw [nI_pred, if_pos (pmIn_nI hl (by omega)), nI_clamp (by omega), M_top hS]
  unfold Mo_work_b253 Mo_work_b264 Mo_work_b272 Mo_work_b286
  rw [nI_pred]
  rcases hc with rfl | rfl
  · by_cases e : x = 0
    · have n1 : ¬ ¬ x = 0 := fun q => q e
      have c1 : x = 0 ↔ (1 : Int32) = 1 := ⟨fun _ => rfl, fun _ => e⟩
      rw [if_neg n1, if_pos c1]
      rfl
    · have c1 : ¬ (x = 0 ↔ (1 : Int32) = 1) := fun q => e (q.mpr rfl)
      rw [if_pos e, if_neg c1]
      rfl
  · by_cases e : x = 0
    · have n1 : ¬ ¬ x = 0 := fun q => q e
      have c1 : ¬ (x = 0 ↔ (2 : Int32) = 1) := fun q => absurd (q.mp e) (by decide)
      rw [if_neg n1, if_neg c1]
      rfl
    · have c1 : x = 0 ↔ (2 : Int32) = 1 := ⟨fun q => absurd q e, fun q => absurd q (by decide)⟩
      rw [if_pos e, if_pos c1]
      rfl
theorem m_if {t : Nat} {c : Int32} (hC : CodeM τ p m i j k w) (hij : i < j) (hk : k i = c) (hc : c = 1 ∨ c = 2) (hw : w i = nI t) (hS : StkM τ (x :: S)) (hl : S.length < 40) : Mo_work_b88 (n + 1) (nI p) (nI r) (nI (S.length + 1)) (nI i) τ = if (x = 0 ↔ c = 1) then Mo_work_b88 n (nI p) (nI r) (nI (S.length + 1)) (nI t) τ else Mo_work_b88 n (nI p) (nI r) (nI S.length) (nI (i + 1)) τ := by
  rw [m_base hC hij, hk, hw]
  rcases hc with rfl | rfl
  · rw [if_neg (by decide), if_pos (by decide), if_pos (by decide), if_pos (by decide), if_pos rfl]
    exact m_236 hS hl (Or.inl rfl)
  · rw [if_neg (by decide), if_pos (by decide), if_pos (by decide), if_pos (by decide), if_neg (by decide), if_neg (by decide)]
    exact m_236 hS hl (Or.inr rfl)
theorem m_not (hC : CodeM τ p m i j k w) (hij : i < j) (hk : k i = 33) (hS : StkM τ (x :: S)) (hl : S.length < 40) : Mo_work_b88 (n + 1) (nI p) (nI r) (nI (S.length + 1)) (nI i) τ = Mo_work_b88 n (nI p) (nI r) (nI (S.length + 1)) (nI (i + 1)) (mput τ 41 S.length (1 - x)) := by
  rw [m_base hC hij, hk, if_neg (by decide), if_pos (by decide), if_pos (by decide), if_pos (by decide), if_neg (by decide), if_pos (by decide), if_neg (by decide), nI_pred, if_pos (pmIn_nI hl (by omega)), if_pos (pmIn_nI hl (by omega)), nI_clamp (by omega), M_top hS]
theorem m_bin {c : Int32} (hC : CodeM τ p m i j k w) (hij : i < j) (hk : k i = c) (hc : isSg c) (hS : StkM τ (y :: x :: S)) (hl : S.length + 1 < 40) : Mo_work_b88 (n + 1) (nI p) (nI r) (nI (S.length + 2)) (nI i) τ = Mo_work_b88 n (nI p) (nI r) (nI (S.length + 1)) (nI (i + 1)) (mput τ 41 S.length (Mo_reckon c x y)) := by
  have t1 : τ 41 (S.length + 1) = y := M_top hS
  have t2 : τ 41 S.length = x := M_top (M_pop hS)
  have e1 : nI (S.length + 2) + (-1) = nI (S.length + 1) := pk_m1 _
  have e2 : nI (S.length + 1) - 1 = nI S.length := nI_pred _
  have p1 : pmIn (nI (S.length + 1)) 40 = true := pmIn_nI hl (by omega)
  have p2 : pmIn (nI S.length) 40 = true := pmIn_nI (by omega) (by omega)
  have q5 : ¬ c = 5 := by rcases hc with rfl | rfl | rfl | rfl | rfl <;> decide
  have q6 : ¬ c = 6 := by rcases hc with rfl | rfl | rfl | rfl | rfl <;> decide
  have q4 : ¬ c = 4 := by rcases hc with rfl | rfl | rfl | rfl | rfl <;> decide
  have q3 : ¬ c = 3 := by rcases hc with rfl | rfl | rfl | rfl | rfl <;> decide
  have q1 : ¬ c = 1 := by rcases hc with rfl | rfl | rfl | rfl | rfl <;> decide
  have q2 : ¬ c = 2 := by rcases hc with rfl | rfl | rfl | rfl | rfl <;> decide
  have q33 : ¬ c = 33 := by rcases hc with rfl | rfl | rfl | rfl | rfl <;> decide
  have qs : ¬ Mo_isSign c = 0 := by rcases hc with rfl | rfl | rfl | rfl | rfl <;> decide
  rw [m_base hC hij, hk, if_neg q5, if_pos q6, if_pos q4, if_pos q3, if_neg q1, if_pos q2, if_pos q33, if_neg qs, e1, e2, if_pos p2, if_pos p1, if_pos p2, nI_clamp (by omega), nI_clamp (by omega), t1, t2]
def isAtM (c : Int32) : Prop := ¬ c = 5 ∧ ¬ c = 6 ∧ ¬ c = 4 ∧ ¬ c = 3 ∧ ¬ c = 1 ∧ ¬ c = 2 ∧ ¬ c = 33 ∧ Mo_isSign c = 0
theorem m_atom {v : Int32} (hC : CodeM τ p m i j k w) (hij : i < j) (hk : isAtM (k i)) (hv : Mo_valueOf (k i) (w i) (nI r) τ = some v) (hl : S.length < 40) : Mo_work_b88 (n + 1) (nI p) (nI r) (nI S.length) (nI i) τ = if 0 ≤ v then Mo_work_b88 n (nI p) (nI r) (nI (S.length + 1)) (nI (i + 1)) (mput τ 41 S.length v) else some (-1, τ) := by
  obtain ⟨q5, q6, q4, q3, q1, q2, q33, qs⟩ := hk
  rw [m_base hC hij, if_neg q5, if_pos q6, if_pos q4, if_pos q3, if_neg q1, if_pos q2, if_pos q33, if_pos qs, hv, Option.bind_some, if_pos (pmIn_nI hl (by omega)), nI_clamp (by omega), nI_1]
theorem m_145 {c : Int32} (hS : StkM τ (x :: S)) (hl : S.length < 40) (hc : c = 5 ∨ c = 6) : Mo_work_b145 (Mo_work_b88 n) (nI p) (nI r) (nI (S.length + 1)) (nI (i + 1)) c τ = if (x = 1 ↔ c = 5) then Mo_work_b88 n (nI p) (nI r) (nI S.length) (nI (i + 1)) τ else some (0, τ) := by
  unfold Mo_work_b145
  rw [pk_m1, if_pos (pmIn_nI hl (by omega)), nI_clamp (by omega), M_top hS]
  unfold Mo_work_b164 Mo_work_b175
  rcases hc with rfl | rfl
  · by_cases e : x = 1
    · have n1 : ¬ ¬ x = 1 := fun q => q e
      have c1 : x = 1 ↔ (5 : Int32) = 5 := ⟨fun _ => rfl, fun _ => e⟩
      rw [if_neg n1, if_pos c1]
      rfl
    · have c1 : ¬ (x = 1 ↔ (5 : Int32) = 5) := fun q => e (q.mpr rfl)
      rw [if_pos e, if_neg c1]
      rfl
  · by_cases e : x = 1
    · have n1 : ¬ ¬ x = 1 := fun q => q e
      have c1 : ¬ (x = 1 ↔ (6 : Int32) = 5) := fun q => absurd (q.mp e) (by decide)
      rw [if_neg n1, if_neg c1]
      rfl
    · have c1 : x = 1 ↔ (6 : Int32) = 5 := ⟨fun q => absurd q e, fun q => absurd q (by decide)⟩
      rw [if_pos e, if_pos c1]
      rfl
theorem m_when {c : Int32} (hC : CodeM τ p m i j k w) (hij : i < j) (hk : k i = c) (hc : c = 5 ∨ c = 6) (hS : StkM τ (x :: S)) (hl : S.length < 40) : Mo_work_b88 (n + 1) (nI p) (nI r) (nI (S.length + 1)) (nI i) τ = if (x = 1 ↔ c = 5) then Mo_work_b88 n (nI p) (nI r) (nI S.length) (nI (i + 1)) τ else some (0, τ) := by
  rw [m_base hC hij, hk]
  rcases hc with rfl | rfl
  · rw [if_pos rfl]
    exact m_145 hS hl (Or.inl rfl)
  · rw [if_neg (by decide), if_neg (by decide)]
    exact m_145 hS hl (Or.inr rfl)
end MS
