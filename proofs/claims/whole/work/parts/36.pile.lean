/-- nothing but the judge's pile, top and resume -/
def Fx1 (σ σ1 : Mem) : Prop := (∀ c, c ≠ 13 → c ≠ 14 → σ1 c = σ c) ∧ ∀ k, k ≠ 2 → k ≠ 3 → σ1 13 k = σ 13 k
theorem Fx1_rf (σ : Mem) : Fx1 σ σ := ⟨fun _ _ _ => rfl, fun _ _ _ => rfl⟩
theorem Fx1_tr {a b c : Mem} (h1 : Fx1 a b) (h2 : Fx1 b c) : Fx1 a c := ⟨fun q x y => (h2.1 q x y).trans (h1.1 q x y), fun k x y => (h2.2 k x y).trans (h1.2 k x y)⟩
def StkX (σ : Mem) (S : List Int32) : Prop := σ 13 2 = nI S.length ∧ S.length ≤ 12 ∧ ∀ (i : Nat) (y : Int32), S.reverse[i]? = some y → σ 14 i = y
theorem rev_lt {S : List Int32} {i : Nat} {y : Int32} (h : S.reverse[i]? = some y) : i < S.length := by
  have := (List.getElem?_eq_some_iff.mp h).1
  rwa [List.length_reverse] at this
theorem rev_top (y : Int32) (S : List Int32) : (y :: S).reverse[S.length]? = some y := by
  rw [List.reverse_cons, List.getElem?_append_right (by rw [List.length_reverse]; exact Nat.le_refl _), List.length_reverse, Nat.sub_self]
  rfl
theorem rev_low {y : Int32} {S : List Int32} {i : Nat} (h : i < S.length) : (y :: S).reverse[i]? = S.reverse[i]? := by
  rw [List.reverse_cons, List.getElem?_append_left (by rw [List.length_reverse]; exact h)]
theorem X_push {σ : Mem} {S : List Int32} (y : Int32) (h : StkX σ S) (hl : S.length < 12) : ∃ σ1, Ju_push y σ = some σ1 ∧ StkX σ1 (y :: S) ∧ σ1 13 3 = σ 13 3 ∧ Fx1 σ σ1 := by
  obtain ⟨h1, h2, h3⟩ := h
  have q : ¬ (12 : Int32) ≤ nI S.length := nI_ge (a := S.length) (b := 12) hl (by omega)
  refine ⟨mput (mput σ 14 S.length y) 13 2 (nI (S.length + 1)), ?_, ⟨mput_eq, hl, fun i x hi => ?_⟩, ?_, ⟨fun c q1 q2 => ?_, fun k q1 q2 => ?_⟩⟩
  · unfold Ju_push
    rw [h1, if_neg q, if_pos (pmIn_nI hl (by omega)), nI_clamp (by omega), mput_ne (by omega), h1, nI_1]
  · rw [mput_ne (by omega)]
    by_cases e : i = S.length
    · subst e
      rw [rev_top] at hi
      cases hi
      rw [mput_eq]
    · have := rev_lt hi
      rw [List.length_cons] at this
      rw [mput_ne (by omega)]
      rw [rev_low (by omega)] at hi
      exact h3 i x hi
  · rw [mput_ne (by omega), mput_ne (by omega)]
  · rw [mrow_ne q1, mrow_ne q2]
  · rw [mput_ne (by omega), mput_ne (by omega)]
theorem X_pull {σ : Mem} {S : List Int32} {y : Int32} (h : StkX σ (y :: S)) : ∃ σ1, Ju_pull σ = some (y, σ1) ∧ StkX σ1 S ∧ σ1 13 3 = σ 13 3 ∧ Fx1 σ σ1 := by
  obtain ⟨h1, h2, h3⟩ := h
  rw [List.length_cons] at h1 h2
  have q : ¬ nI (S.length + 1) ≤ 0 := nI_nle (by omega) (by omega)
  have e1 : nI (S.length + 1) - 1 = nI S.length := nI_pred _
  have hy : σ 14 S.length = y := h3 _ _ (rev_top y S)
  refine ⟨mput σ 13 2 (nI S.length), ?_, ⟨mput_eq, by omega, fun i x hi => ?_⟩, mput_ne (by omega), ⟨fun c q1 q2 => mrow_ne q1, fun k q1 q2 => mput_ne (by omega)⟩⟩
  · unfold Ju_pull
    rw [h1, if_neg q, e1]
    unfold Ju_pull_b17
    rw [mput_eq, if_pos (pmIn_nI (by omega) (by omega)), nI_clamp (by omega), mput_ne (by omega), hy]
  · rw [mput_ne (by omega)]
    exact h3 i x (by rw [rev_low (rev_lt hi)]; exact hi)
