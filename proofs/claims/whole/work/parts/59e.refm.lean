/-- behind a look at what goes on, begun at place v3 -/
def AF (k5 : Int32 → Mem → Option Mem) (m v3 : Nat) : Mem → Option Mem := fun q => Mo_readConditions_b136 k5 (Mo_readConditions_b98 k5 m) (nI v3) q
/-- a way on from place i that is the loop's -/
def Gd (τ0 : Mem) (k5 : Int32 → Mem → Option Mem) (m i : Nat) (G : Mem → Option Mem) : Prop := ∀ i1 ρ g d l a f C N F, i ≤ i1 → i1 ≤ 170 → d < 8 → G (mkM τ0 i1 ρ g (nI d) l a f C N F) = Mo_readConditions_b98 k5 m 0 (mkM τ0 i1 ρ g (nI d) l a f C N F)
section
variable {p : Nat} {σ0 τ0 : Mem} {len i : Nat} {ρ g top : Int32} {l a : Nat} {f : Int32} {C N : Nat → Int32} {F : Mem} {k5 : Int32 → Mem → Option Mem} {d m : Nat}
theorem L_ref (v : Int32) (hρ : ρ ≠ 0) : Mo_readConditions_b98 k5 (m + 1) v (mkM τ0 i ρ g top l a f C N F) = k5 (-1) (mkM τ0 i ρ g top l a f C N F) := by
  have e : Mo_readConditions_b208 k5 (mkM τ0 i ρ g top l a f C N F) = k5 (-1) (mkM τ0 i ρ g top l a f C N F) := by
    unfold Mo_readConditions_b208
    rw [M_ρ, if_pos hρ]
  rw [Mo_readConditions_b98, M_t, M_ρ]
  by_cases h : top < 0
  · rw [if_pos h]
    exact e
  · rw [if_neg h, if_pos hρ]
    exact e
theorem AF_ref (v3 : Nat) (hρ : ρ ≠ 0) : AF k5 (m + 1) v3 (mkM τ0 i ρ g top l a f C N F) = k5 (-1) (mkM τ0 i ρ g top l a f C N F) := by
  unfold AF Mo_readConditions_b136
  rw [M_ρ, if_pos hρ]
  unfold Mo_readConditions_b160 Mo_readConditions_b161
  rw [if_neg (by decide), if_neg (by decide), if_neg (by decide), if_neg (by decide), if_pos (by decide)]
  exact L_ref 0 hρ
theorem L_go (hd : d < 8) : Mo_readConditions_b98 k5 (m + 1) 0 (mkM τ0 i 0 g (nI d) l a f C N F) = (Mo_goOn (mkM τ0 i 0 g (nI d) l a f C N F)).bind (AF k5 m i) := by
  rw [Mo_readConditions_b98, M_t, if_neg (nI_pos (by omega)), M_ρ, if_neg (by decide), if_pos rfl]
  unfold Mo_readConditions_b120
  rw [M_ρ, if_neg (by decide), M_i]
  rfl
theorem L_end (h : CT p σ0 τ0 len) (hd : d < 8) : Mo_readConditions_b98 k5 (m + 2) 0 (mkM τ0 len 0 g (nI d) l a f C N F) = k5 (-1) (mkM τ0 len (-10 - nI len) g (nI d) l a f C N F) := by
  have n0 : (-10 - nI len : Int32) ≠ 0 := ne_sub (by have := h.2.1; omega) (Or.inl rfl)
  rw [L_go hd]
  unfold Mo_goOn
  rw [M_hereE h, Option.bind_some]
  show (if mkM τ0 len (-10 - nI len) g (nI d) l a f C N F 0 15 = 0 then _ else some (mkM τ0 len (-10 - nI len) g (nI d) l a f C N F)).bind (AF k5 (m + 1) len) = _
  rw [M_ρ, if_neg n0, Option.bind_some]
  exact AF_ref len n0
/-- + - < = # & | -/
def isSn (b : Int32) : Prop := b = 43 ∨ b = 45 ∨ b = 60 ∨ b = 61 ∨ b = 35 ∨ b = 38 ∨ b = 124
theorem AF_sn (h : CT p σ0 τ0 len) {v : Nat} (hv : v < len) (hs : isSn (σ0 16 v)) : AF k5 m v (mkM τ0 (v + 1) 0 g top l a f C N F) = Mo_readConditions_b98 k5 m 1 (mkM τ0 (v + 1) 0 g top l a f C N F) := by
  have h2 := h.2.1
  unfold AF Mo_readConditions_b136
  rw [M_ρ, if_neg (by decide), M_i, if_neg (nI_ge (by omega) (by omega)), if_pos (pmIn_nI (by omega) n31), M_x, nI_clamp (by omega), ← (h.2.2.2.2.2 v hv).1]
  unfold Mo_readConditions_b161
  rcases hs with e | e | e | e | e | e | e <;> rw [e] <;> rfl
theorem AF_gd (h : CT p σ0 τ0 len) {v : Nat} (hv : v < len) (hs : ¬ isSn (σ0 16 v)) : Gd τ0 k5 (m + 1) (v + 1) (AF k5 (m + 1) v) := by
  intro i1 ρ g d l a f C N F hi hi2 hd
  have h2 := h.2.1
  by_cases hρ : ρ = 0
  · subst hρ
    unfold AF Mo_readConditions_b136
    rw [M_ρ, if_neg (by decide), M_i, if_neg (nI_ge (by omega) (by omega)), if_pos (pmIn_nI (by omega) n31), M_x, nI_clamp (by omega), ← (h.2.2.2.2.2 v hv).1]
    unfold isSn at hs
    unfold Mo_readConditions_b161 Mo_isComparing
    rw [if_neg (fun z => hs (Or.inl z)), if_neg (fun z => hs (Or.inr (Or.inl z))), if_neg (fun z => hs (Or.inr (Or.inr (Or.inl z)))), if_neg (fun z => hs (Or.inr (Or.inr (Or.inr (Or.inl z))))), if_pos (fun z => hs (Or.inr (Or.inr (Or.inr (Or.inr (Or.inl z)))))), if_neg (by decide), if_neg (fun z => hs (Or.inr (Or.inr (Or.inr (Or.inr (Or.inr (Or.inl z))))))), if_pos (fun z => hs (Or.inr (Or.inr (Or.inr (Or.inr (Or.inr (Or.inr z)))))))]
  · rw [AF_ref v hρ, L_ref 0 hρ]
theorem L_1 (hd : d < 8) (hm : 2 ≤ m) : ∃ G, Gd τ0 k5 m i G ∧ Mo_readConditions_b98 k5 m 1 (mkM τ0 i 0 g (nI d) l a f C N F) = (Mo_readTerm_b2 FU 1 (mkM τ0 i 0 g (nI d) l a f C N F)).bind G := by
  obtain ⟨m, rfl⟩ : ∃ q, m = q + 2 := ⟨m - 2, by omega⟩
  refine ⟨fun q => Mo_readConditions_b120 k5 (Mo_readConditions_b98 k5 (m + 1)) q, ?_, ?_⟩
  · intro i1 ρ g d l a f C N F hi hi2 hd
    show Mo_readConditions_b120 k5 (Mo_readConditions_b98 k5 (m + 1)) _ = _
    by_cases hρ : ρ = 0
    · subst hρ
      rw [L_go hd]
      unfold Mo_readConditions_b120
      rw [M_ρ, if_neg (by decide), M_i]
      rfl
    · rw [L_ref 0 hρ]
      unfold Mo_readConditions_b120
      rw [M_ρ, if_pos hρ, M_i]
      exact AF_ref i1 hρ
  · rw [Mo_readConditions_b98, M_t, if_neg (nI_pos (by omega)), M_ρ, if_neg (by decide), if_neg (by decide)]
    rfl
theorem eT_val {k : Nat} {v4 v5 v6 : Int32} (hd : d < 8) (h4 : ¬ F 14 d = 4) (h23 : F 23 d = 0) : Mo_endTerm_b9 (k + 1) v4 v5 v6 (mkM τ0 i ρ g (nI d) l a f C N F) = some (mkM τ0 i ρ g (nI d) l a f C N (mput (mput (mput F 25 d v4) 26 d v5) 24 d v6)) := by
  have q : pmIn (nI d) 8 = true := pmIn_nI hd (by omega)
  have q2 : (nI d).toNatClampNeg = d := nI_clamp (by omega)
  rw [Mo_endTerm_b9]
  simp only [M_t, q, q2, if_true, M_F (c := 14) (by omega), M_F (c := 23) (by omega), h4, h23, not_false_eq_true, not_true_eq_false, if_false, M_pF (c := 25) (by omega), M_pF (c := 26) (by omega), M_pF (c := 24) (by omega)]
theorem eT_129 (hd : d < 8) (hl : l < 160) : Mo_endTerm_b129 (mkM τ0 i ρ g (nI d) l a f C N F) = some (mkM τ0 i ρ g (nI d) (l + 1) a f (upR1 C l (F 23 d)) (upR1 N l 0) (mput (mput F 23 d 0) 26 d 0)) := by
  have q : pmIn (nI d) 8 = true := pmIn_nI hd (by omega)
  have q2 : (nI d).toNatClampNeg = d := nI_clamp (by omega)
  unfold Mo_endTerm_b129
  simp only [M_t, q, q2, if_true, M_F (c := 23) (by omega), M_emit hl, Option.bind_some, M_pF (c := 23) (by omega), M_pF (c := 26) (by omega)]
theorem eT_sg {k : Nat} {v5 v6 : Int32} (hd : d < 8) (hl : l < 160) (h4 : ¬ F 14 d = 4) (h23 : ¬ F 23 d = 0) : Mo_endTerm_b9 (k + 1) 1 v5 v6 (mkM τ0 i ρ g (nI d) l a f C N F) = some (mkM τ0 i ρ g (nI d) (l + 1) a f (upR1 C l (F 23 d)) (upR1 N l 0) (mput (mput F 23 d 0) 26 d 0)) := by
  have q : pmIn (nI d) 8 = true := pmIn_nI hd (by omega)
  have q2 : (nI d).toNatClampNeg = d := nI_clamp (by omega)
  rw [Mo_endTerm_b9]
  simp only [M_t, q, q2, if_true, M_F (c := 14) (by omega), M_F (c := 23) (by omega), h4, h23, not_false_eq_true]
  exact eT_129 hd hl
theorem eT_sgN {k : Nat} {v4 v5 v6 : Int32} (hd : d < 8) (hl : l < 160) (h4 : ¬ F 14 d = 4) (h23 : ¬ F 23 d = 0) (hv : ¬ v4 = 1) : ∃ l1 C1 N1 F1, l1 ≤ 160 ∧ Mo_endTerm_b9 (k + 1) v4 v5 v6 (mkM τ0 i 0 g (nI d) l a f C N F) = some (mkM τ0 i (-1000 - v6) g (nI d) l1 a f C1 N1 F1) := by
  have q : pmIn (nI d) 8 = true := pmIn_nI hd (by omega)
  have q2 : (nI d).toNatClampNeg = d := nI_clamp (by omega)
  refine ⟨l + 1, upR1 C l (F 23 d), upR1 N l 0, mput (mput F 23 d 0) 26 d 0, hl, ?_⟩
  rw [Mo_endTerm_b9]
  simp only [M_t, q, q2, if_true, M_F (c := 14) (by omega), M_F (c := 23) (by omega), h4, h23, not_false_eq_true, hv, if_false, M_wt, Option.bind_some]
  exact eT_129 hd hl
theorem eT_34 {k9 : Int32 → Int32 → Int32 → Mem → Option Mem} (hd : d + 1 < 8) (hl : l < 160) : Mo_endTerm_b34 k9 (mkM τ0 i ρ g (nI (d + 1)) l a f C N F) = k9 2 0 (F 15 (d + 1)) (mkM τ0 i ρ g (nI d) (l + 1) a f (upR1 C l 33) (upR1 N l 0) F) := by
  have q : pmIn (nI (d + 1)) 8 = true := pmIn_nI hd (by omega)
  have q2 : (nI (d + 1)).toNatClampNeg = d + 1 := nI_clamp (by omega)
  unfold Mo_endTerm_b34
  simp only [M_t, q, q2, if_true, M_F (c := 15) (by omega), M_emit hl, Option.bind_some, M_p17, nI_pred]
theorem eT_not {k : Nat} {v5 v6 : Int32} (hd : d + 1 < 8) (hl : l < 160) (h4 : F 14 (d + 1) = 4) : Mo_endTerm_b9 (k + 1) 2 v5 v6 (mkM τ0 i ρ g (nI (d + 1)) l a f C N F) = Mo_endTerm_b9 k 2 0 (F 15 (d + 1)) (mkM τ0 i ρ g (nI d) (l + 1) a f (upR1 C l 33) (upR1 N l 0) F) := by
  have q : pmIn (nI (d + 1)) 8 = true := pmIn_nI hd (by omega)
  have q2 : (nI (d + 1)).toNatClampNeg = d + 1 := nI_clamp (by omega)
  rw [Mo_endTerm_b9]
  simp only [M_t, q, q2, if_true, M_F (c := 14) (by omega), h4, not_true_eq_false, if_false]
  exact eT_34 hd hl
theorem eT_dead (hρ : ρ ≠ 0) : ∀ (d k l : Nat) (v4 v5 v6 : Int32) (C N : Nat → Int32) (F : Mem), d < 8 → l + d < 160 → (∃ t, t ≤ d ∧ ¬ F 14 t = 4) → d < k → ∃ d1 l1 C1 N1 F1, d1 < 8 ∧ l1 ≤ 160 ∧ Mo_endTerm_b9 k v4 v5 v6 (mkM τ0 i ρ g (nI d) l a f C N F) = some (mkM τ0 i ρ g (nI d1) l1 a f C1 N1 F1)
  | d, k + 1, l, v4, v5, v6, C, N, F, hd, hl, ht, hk => by
    have q : pmIn (nI d) 8 = true := pmIn_nI hd (by omega)
    have q2 : (nI d).toNatClampNeg = d := nI_clamp (by omega)
    by_cases h4 : F 14 d = 4
    · obtain ⟨t, ht, ht4⟩ := ht
      cases d with
      | zero =>
        have : t = 0 := by omega
        subst this
        exact absurd h4 ht4
      | succ d =>
        have ht2 : t ≠ d + 1 := fun z => ht4 (by rw [z]; exact h4)
        obtain ⟨d1, l1, C1, N1, F1, a1, a2, a3⟩ := eT_dead hρ d k (l + 1) 2 0 (F 15 (d + 1)) (upR1 C l 33) (upR1 N l 0) F (by omega) (by omega) ⟨t, by omega, ht4⟩ (by omega)
        refine ⟨d1, l1, C1, N1, F1, a1, a2, ?_⟩
        rw [← a3, Mo_endTerm_b9]
        simp only [M_t, q, q2, if_true, M_F (c := 14) (by omega), h4, not_true_eq_false, if_false, M_wtR _ hρ, Option.bind_some, ite_self]
        exact eT_34 hd (by omega)
    · by_cases h23 : F 23 d = 0
      · exact ⟨d, l, _, _, _, hd, by omega, eT_val hd h4 h23⟩
      · refine ⟨d, l + 1, upR1 C l (F 23 d), upR1 N l 0, mput (mput F 23 d 0) 26 d 0, hd, by omega, ?_⟩
        rw [Mo_endTerm_b9]
        simp only [M_t, q, q2, if_true, M_F (c := 14) (by omega), M_F (c := 23) (by omega), h4, h23, not_false_eq_true, M_wtR _ hρ, Option.bind_some, ite_self]
        exact eT_129 hd (by omega)
end
