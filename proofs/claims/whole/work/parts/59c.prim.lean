theorem n31 : (160 : Nat) < 2 ^ 31 := by omega
theorem ne_sub {x : Int32} {n : Nat} (hn : n < 2 ^ 20) (hx : x = -10 ∨ x = -1000) : x - nI n ≠ 0 := by
  intro h
  have h2 : x = nI n := by
    have := congrArg (fun y => y + nI n) h
    simpa using this
  have h3 := nI_pos (n := n) (by omega)
  rw [← h2] at h3
  rcases hx with rfl | rfl
  · exact h3 (by decide)
  · exact h3 (by decide)
/-- the class's reader has refused (b = true), or (b = false) it may also stand at the end of the text, about to refuse -/
def Dead (p : Nat) (σ0 : Mem) (len : Nat) (b : Bool) (ρ : Int32) (σ : Mem) : Prop :=
  (ρ ≠ 0 ∧ ∃ i a P j L f K W, j ≤ 160 ∧ i ≤ 160 ∧ σ = mkX p σ0 i ρ a P j L f K W) ∨ (b = false ∧ ρ = -10 - nI len ∧ ∃ a P j L f K W, j ≤ 160 ∧ σ = mkX p σ0 len 0 a P j L f K W)
section
variable {p : Nat} {σ0 τ0 : Mem} {len : Nat} {i : Nat} {ρ : Int32} {a : Nat} {P : Int32} {j : Nat} {L f : Int32} {K W : Nat → Int32}
theorem ct_ix (h : CT p σ0 τ0 len) : ix (mkX p σ0 i ρ a P j L f K W 15 2) = p := by
  have := po_ne h.1
  rw [x_pol, h.2.2.2.1, ix_nI (by omega)]
theorem r_nx (h : CT p σ0 τ0 len) (hi : i < len) : Re_next (mkX p σ0 i 0 a P j L f K W) = some (σ0 16 i) := by
  have h2 := h.2.1
  unfold Re_next
  rw [x_ref, if_neg (by decide), x_len, x_pos, h.2.2.1, if_neg (nI_ge hi (by omega)), if_pos (pmIn_nI (by omega) n31), x_txt h.1, nI_clamp (by omega)]
theorem r_nxE (h : CT p σ0 τ0 len) : Re_next (mkX p σ0 len 0 a P j L f K W) = some (-1) := by
  have h2 := h.2.1
  unfold Re_next
  rw [x_ref, if_neg (by decide), x_len, x_pos, h.2.2.1, if_pos (nI_le (Nat.le_refl _) (by omega))]
theorem r_nxR (hρ : ρ ≠ 0) : Re_next (mkX p σ0 i ρ a P j L f K W) = some (-1) := by
  unfold Re_next
  rw [x_ref, if_pos hρ]
theorem r_rb (x : Nat) (hx : i = x) : Re_refuseByte (mkX p σ0 i 0 a P j L f K W) = some (mkX p σ0 i (-10 - nI x) a P j L f K W) := by
  subst hx
  unfold Re_refuseByte
  rw [x_ref, if_neg (by decide), x_pos, x_p4]
theorem r_rbR (hρ : ρ ≠ 0) : Re_refuseByte (mkX p σ0 i ρ a P j L f K W) = some (mkX p σ0 i ρ a P j L f K W) := by
  unfold Re_refuseByte
  rw [x_ref, if_pos hρ]
theorem r_tk (h : CT p σ0 τ0 len) (hi : i < len) {v : Int32} (hv : σ0 16 i = v) : Re_take v (mkX p σ0 i 0 a P j L f K W) = some (mkX p σ0 (i + 1) 0 a P j L f K W) := by
  unfold Re_take
  rw [r_nx h hi, Option.bind_some, if_neg (fun z => z hv), x_pos, nI_1, x_p3]
theorem r_tkN (h : CT p σ0 τ0 len) (hi : i < len) {v : Int32} (hv : ¬ σ0 16 i = v) : Re_take v (mkX p σ0 i 0 a P j L f K W) = some (mkX p σ0 i (-10 - nI i) a P j L f K W) := by
  unfold Re_take
  rw [r_nx h hi, Option.bind_some, if_pos hv, r_rb i rfl, Option.bind_some]
theorem p_ap (hp : isPo p) (hj : j < 160) (v1 v2 : Int32) : Po_append p v1 v2 (mkX p σ0 i ρ a P j L f K W) = some (mkX p σ0 i ρ a P (j + 1) (L ||| Po_bitsOf v1) f (upR1 K j v1) (upR1 W j v2)) := by
  unfold Po_append
  rw [x_stp hp, if_neg (show ¬ (160 : Int32) ≤ nI j from nI_ge (a := j) (b := 160) hj n31), if_pos (pmIn_nI hj n31), nI_clamp (by omega), x_K hp, x_stp hp, if_pos (pmIn_nI hj n31), nI_clamp (by omega), x_W hp, x_stp hp, nI_1, x_q9 hp, x_lk hp, x_q3 hp]
theorem p_apF (hp : isPo p) (hj : j = 160) (v1 v2 : Int32) : Po_append p v1 v2 (mkX p σ0 i ρ a P j L f K W) = some (mkX p σ0 i ρ a P j L f K W) := by
  subst hj
  unfold Po_append
  rw [x_stp hp, if_pos (show (160 : Int32) ≤ nI 160 by decide)]
theorem p_lh (hp : isPo p) {q : Nat} (hq : q < j) (hj : j ≤ 160) : Po_landHere p (nI q) (mkX p σ0 i ρ a P j L f K W) = some (mkX p σ0 i ρ a P j L f K (upR1 W q (nI j))) := by
  unfold Po_landHere
  rw [if_neg (nI_pos (by omega)), x_stp hp, if_neg (nI_ge hq (by omega)), if_pos (pmIn_nI (by omega) n31), nI_clamp (by omega), x_W hp]
theorem r_lk (v3 : Int32) {v1 v2 : Int32} (h : v1 = v2) (σ : Mem) : Re_lookAt v1 v2 v3 σ = some σ := by
  unfold Re_lookAt
  rw [if_pos h]
theorem r_lkN (v3 : Int32) {v1 v2 : Int32} (h : ¬ v1 = v2) : Re_lookAt v1 v2 v3 (mkX p σ0 i 0 a P j L f K W) = some (mkX p σ0 i (-1000 - v3) a P j L f K W) := by
  unfold Re_lookAt
  rw [if_neg h, x_ref, if_neg (by decide), x_p4]
theorem r_le (h : CT p σ0 τ0 len) (hi : i < len) (v1 v2 v3 : Int32) : Re_lookAtEnded v1 v2 v3 (mkX p σ0 i ρ a P j L f K W) = Re_lookAt v1 v2 v3 (mkX p σ0 i ρ a P j L f K W) := by
  have h2 := h.2.1
  unfold Re_lookAtEnded
  rw [x_len, x_pos, h.2.2.1, if_neg (nI_ge hi (by omega))]
  cases Re_lookAt v1 v2 v3 (mkX p σ0 i ρ a P j L f K W) <;> rfl
end
section
variable {p : Nat} {σ0 τ0 : Mem} {len : Nat} {b : Bool} {ρ : Int32} {σ : Mem}
theorem dd_w (h : Dead p σ0 len b ρ σ) : Dead p σ0 len false ρ σ := by
  rcases h with h | ⟨-, h⟩
  · exact Or.inl h
  · exact Or.inr ⟨rfl, h⟩
theorem dd_ne (hC : CT p σ0 τ0 len) (h : Dead p σ0 len b ρ σ) : ρ ≠ 0 := by
  rcases h with h | ⟨-, h, -⟩
  · exact h.1
  · rw [h]
    exact ne_sub (by have := hC.2.1; omega) (Or.inl rfl)
theorem dd_ix (hC : CT p σ0 τ0 len) (h : Dead p σ0 len b ρ σ) : ix (σ 15 2) = p := by
  rcases h with ⟨-, i, a, P, j, L, f, K, W, -, -, rfl⟩ | ⟨-, -, a, P, j, L, f, K, W, -, rfl⟩
  · exact ct_ix hC
  · exact ct_ix hC
theorem dd_nx (hC : CT p σ0 τ0 len) (h : Dead p σ0 len b ρ σ) : Re_next σ = some (-1) := by
  rcases h with ⟨h0, i, a, P, j, L, f, K, W, -, -, rfl⟩ | ⟨-, -, a, P, j, L, f, K, W, -, rfl⟩
  · exact r_nxR h0
  · exact r_nxE hC
theorem dd_rb (hC : CT p σ0 τ0 len) (h : Dead p σ0 len b ρ σ) : ∃ σ1, Re_refuseByte σ = some σ1 ∧ Dead p σ0 len true ρ σ1 := by
  have h0 := dd_ne hC h
  have h2 := hC.2.1
  rcases h with ⟨h0, i, a, P, j, L, f, K, W, hj, hi, rfl⟩ | ⟨-, e, a, P, j, L, f, K, W, hj, rfl⟩
  · exact ⟨_, r_rbR h0, Or.inl ⟨h0, i, a, P, j, L, f, K, W, hj, hi, rfl⟩⟩
  · exact ⟨_, r_rb len rfl, Or.inl ⟨h0, len, a, P, j, L, f, K, W, hj, by omega, by rw [e]⟩⟩
theorem dd_tk (hC : CT p σ0 τ0 len) (h : Dead p σ0 len b ρ σ) {v : Int32} (hv : ¬ v = -1) : ∃ σ1, Re_take v σ = some σ1 ∧ Dead p σ0 len true ρ σ1 := by
  obtain ⟨σ1, e1, h1⟩ := dd_rb hC h
  refine ⟨σ1, ?_, h1⟩
  unfold Re_take
  rw [dd_nx hC h, Option.bind_some, if_pos (fun z => hv z.symm), e1, Option.bind_some]
theorem dd_p6 (h : Dead p σ0 len b ρ σ) (x : Int32) : Dead p σ0 len b ρ (mput σ 15 6 x) := by
  rcases h with ⟨h0, i, a, P, j, L, f, K, W, hj, hi, rfl⟩ | ⟨hb, e, a, P, j, L, f, K, W, hj, rfl⟩
  · exact Or.inl ⟨h0, i, a, x, j, L, f, K, W, hj, hi, x_p6 x⟩
  · exact Or.inr ⟨hb, e, a, x, j, L, f, K, W, hj, x_p6 x⟩
theorem dd_ap (hC : CT p σ0 τ0 len) (h : Dead p σ0 len b ρ σ) (v1 v2 : Int32) : ∃ σ1, Po_append p v1 v2 σ = some σ1 ∧ Dead p σ0 len b ρ σ1 := by
  rcases h with ⟨h0, i, a, P, j, L, f, K, W, hj, hi, rfl⟩ | ⟨hb, e, a, P, j, L, f, K, W, hj, rfl⟩
  · rcases (show j < 160 ∨ j = 160 by omega) with h1 | h1
    · exact ⟨_, p_ap hC.1 h1 v1 v2, Or.inl ⟨h0, _, _, _, _, _, _, _, _, h1, hi, rfl⟩⟩
    · exact ⟨_, p_apF hC.1 h1 v1 v2, Or.inl ⟨h0, _, _, _, _, _, _, _, _, hj, hi, rfl⟩⟩
  · rcases (show j < 160 ∨ j = 160 by omega) with h1 | h1
    · exact ⟨_, p_ap hC.1 h1 v1 v2, Or.inr ⟨hb, e, _, _, _, _, _, _, _, h1, rfl⟩⟩
    · exact ⟨_, p_apF hC.1 h1 v1 v2, Or.inr ⟨hb, e, _, _, _, _, _, _, _, hj, rfl⟩⟩
theorem dd_lh (hC : CT p σ0 τ0 len) (h : Dead p σ0 len b ρ σ) (v : Int32) : ∃ σ1, Po_landHere p v σ = some σ1 ∧ Dead p σ0 len b ρ σ1 := by
  by_cases h0 : v < 0
  · exact ⟨σ, by unfold Po_landHere; rw [if_pos h0], h⟩
  · obtain ⟨q, hq, rfl⟩ := nI_of h0
    rcases h with ⟨h0, i, a, P, j, L, f, K, W, hj, hi, rfl⟩ | ⟨hb, e, a, P, j, L, f, K, W, hj, rfl⟩
    · by_cases h1 : q < j
      · exact ⟨_, p_lh hC.1 h1 hj, Or.inl ⟨h0, _, _, _, _, _, _, _, _, hj, hi, rfl⟩⟩
      · refine ⟨_, ?_, Or.inl ⟨h0, i, a, P, j, L, f, K, W, hj, hi, rfl⟩⟩
        unfold Po_landHere
        rw [if_neg (nI_pos (by omega)), x_stp hC.1, if_pos (nI_le (by omega) (by omega))]
    · by_cases h1 : q < j
      · exact ⟨_, p_lh hC.1 h1 hj, Or.inr ⟨hb, e, _, _, _, _, _, _, _, hj, rfl⟩⟩
      · refine ⟨_, ?_, Or.inr ⟨hb, e, a, P, j, L, f, K, W, hj, rfl⟩⟩
        unfold Po_landHere
        rw [if_neg (nI_pos (by omega)), x_stp hC.1, if_pos (nI_le (by omega) (by omega))]
theorem dd_br (hC : CT p σ0 τ0 len) (h : Dead p σ0 len b ρ σ) {v : Int32} (hv : ¬ v = -1) (v2 : Int32) : ∃ x σ1, Re_branchAt v v2 σ = some (x, σ1) ∧ Dead p σ0 len true ρ σ1 := by
  obtain ⟨σ1, e1, h1⟩ := dd_tk hC h hv
  obtain ⟨σ2, e2, h2⟩ := dd_ap hC h1 v2 0
  refine ⟨σ2 p 9 - 1, σ2, ?_, h2⟩
  unfold Re_branchAt
  rw [e1, Option.bind_some, dd_ix hC h1, if_pos hC.1, e2, Option.bind_some, dd_ix hC h2, if_pos hC.1]
theorem dd_le (hC : CT p σ0 τ0 len) (h : Dead p σ0 len b ρ σ) (v1 v2 v3 : Int32) : Re_lookAtEnded v1 v2 v3 σ = some σ := by
  have h2 := hC.2.1
  unfold Re_lookAtEnded
  rcases h with ⟨h0, i, a, P, j, L, f, K, W, hj, hi, rfl⟩ | ⟨hb, e, a, P, j, L, f, K, W, hj, rfl⟩
  · split
    · rfl
    · have e : Re_lookAt v1 v2 v3 (mkX p σ0 i ρ a P j L f K W) = some (mkX p σ0 i ρ a P j L f K W) := by
        unfold Re_lookAt
        by_cases e : v1 = v2
        · rw [if_pos e]
        · rw [if_neg e, x_ref, if_pos h0]
      rw [e]
      rfl
  · rw [x_len, x_pos, hC.2.2.1, if_pos (nI_le (Nat.le_refl _) (by omega))]
theorem dd_lk (h : Dead p σ0 len true ρ σ) (v1 v2 v3 : Int32) : Re_lookAt v1 v2 v3 σ = some σ := by
  rcases h with ⟨h0, i, a, P, j, L, f, K, W, hj, hi, rfl⟩ | ⟨hb, e, a, P, j, L, f, K, W, hj, rfl⟩
  · unfold Re_lookAt
    by_cases e : v1 = v2
    · rw [if_pos e]
    · rw [if_neg e, x_ref, if_pos h0]
  · cases hb
end
/-- a row of readers, begun dead, stays dead -/
def DeadP (p : Nat) (σ0 : Mem) (len : Nat) (rc : Nat → Int32 → Int32 → Mem → Option (Int32 × Mem)) (s : Nat) : Prop := ∀ x y b ρ σ, Dead p σ0 len b ρ σ → ∃ ty σ1, rc s x y σ = some (ty, σ1) ∧ Dead p σ0 len true ρ σ1
section
variable {p : Nat} {σ0 τ0 : Mem} {len : Nat}
theorem dp4 (hC : CT p σ0 τ0 len) (n : Nat) : DeadP p σ0 len (Re_rc (n + 1)) 4 := by
  intro x y b ρ σ h
  obtain ⟨σ1, e1, h1⟩ := dd_rb hC (dd_p6 h 0)
  refine ⟨0, σ1, ?_, h1⟩
  show Re_term (Re_rc n) x y σ = _
  unfold Re_term
  rw [dd_nx hC h, Option.bind_some, if_neg (by decide), if_neg (by decide), if_neg (by decide)]
  unfold Re_atom
  rw [dd_nx hC h, Option.bind_some, if_pos (by decide)]
  unfold Re_atom_b29
  rw [e1]
  rfl
theorem dp3 (hC : CT p σ0 τ0 len) (n : Nat) : DeadP p σ0 len (Re_rc (n + 2)) 3 := by
  intro x y b ρ σ h
  obtain ⟨ty, σ1, e1, h1⟩ := dp4 hC n x y b ρ σ h
  refine ⟨ty, σ1, ?_, h1⟩
  show Re_sum (Re_rc (n + 1)) x y σ = _
  unfold Re_sum
  rw [e1, Option.bind_some]
  show Re_sum_b16 _ (2099 + 1) x y _ ty 0 σ1 = _
  rw [Re_sum_b16, if_neg (by decide), dd_nx hC h1, Option.bind_some, if_neg (by decide), Option.bind_some, if_pos (by decide)]
theorem dp2 (hC : CT p σ0 τ0 len) (n : Nat) : DeadP p σ0 len (Re_rc (n + 3)) 2 := by
  intro x y b ρ σ h
  obtain ⟨ty, σ1, e1, h1⟩ := dp3 hC n x y b ρ σ h
  refine ⟨ty, σ1, ?_, h1⟩
  show Re_comparison (Re_rc (n + 2)) x y σ = _
  unfold Re_comparison
  rw [e1, Option.bind_some]
  show (Re_next σ1).bind _ = _
  rw [dd_nx hC h1, Option.bind_some, if_neg (by decide), if_neg (by decide), if_neg (by decide)]
theorem dp1 (hC : CT p σ0 τ0 len) (n : Nat) : DeadP p σ0 len (Re_rc (n + 4)) 1 := by
  intro x y b ρ σ h
  obtain ⟨ty, σ1, e1, h1⟩ := dp2 hC n x y b ρ σ h
  refine ⟨ty, mput σ1 15 6 (σ1 15 6), ?_, dd_p6 h1 _⟩
  show Re_ands (Re_rc (n + 3)) x y σ = _
  unfold Re_ands
  rw [e1, Option.bind_some]
  show Re_ands_b22 _ (2099 + 1) x y _ ty _ 0 σ1 = _
  rw [Re_ands_b22, if_neg (by decide), dd_nx hC h1, Option.bind_some, if_pos (by decide)]
  rfl
theorem dp0 (hC : CT p σ0 τ0 len) (n : Nat) : DeadP p σ0 len (Re_rc (n + 5)) 0 := by
  intro x y b ρ σ h
  obtain ⟨ty, σ1, e1, h1⟩ := dp1 hC n x y b ρ σ h
  refine ⟨ty, mput σ1 15 6 (σ1 15 6), ?_, dd_p6 h1 _⟩
  show Re_alternatives (Re_rc (n + 4)) x y σ = _
  unfold Re_alternatives
  rw [e1, Option.bind_some]
  show Re_alternatives_b22 _ (2099 + 1) x y _ ty _ 0 σ1 = _
  rw [Re_alternatives_b22, if_neg (by decide), dd_nx hC h1, Option.bind_some, if_pos (by decide)]
  rfl
end
