def shf (i k t : Nat) : Nat := if i ≤ t ∧ t < k then t + 1 else t
theorem bz01 {x : Int32} (h : x = 0 ∨ x = 1) : (x == 0 || x == 1) = true := by rcases h with rfl | rfl <;> decide
theorem M_drp {τ : Mem} {s i c : Nat} (hs : s < 2) (hc : c < 8) (h6 : τ 6 s = nI c) (h01 : ∀ t, t ≤ c → (τ 7 (8 * s + t) = 0 ∨ τ 7 (8 * s + t) = 1) ∧ (τ 10 (8 * s + t) = 0 ∨ τ 10 (8 * s + t) = 1)) : ∀ (d k n : Nat) (τ1 : Mem), i ≤ k → k + d = c → d < n → (∀ c, c < 7 ∨ 13 < c → τ1 c = τ c) → (∀ q, q < 17 → EqP τ1 q τ (shf (8 * s + i) (8 * s + k) q)) →
    ∃ τ2, Mo_drop_b29 n (nI s) (nI (8 * s + k)) τ1 = some (nI c, τ2) ∧ (∀ c, c < 7 ∨ 13 < c → τ2 c = τ c) ∧ (∀ q, q < 17 → EqP τ2 q τ (shf (8 * s + i) (8 * s + c) q)) := by
  intro d
  induction d with
  | zero =>
    intro k n τ1 hik hk hn h1 h2
    obtain ⟨n, rfl⟩ : ∃ m, n = m + 1 := ⟨n - 1, by omega⟩
    obtain rfl : k = c := by omega
    have e : (8 : Int32) * nI s + nI k = nI (8 * s + k) := by rw [show (8 : Int32) = nI 8 from rfl, pk_mul, nI_add]
    have p2 : pmIn (nI s) 2 = true := pmIn_nI hs (by omega)
    rw [Mo_drop_b29, nI_clamp (by omega), h1 6 (by omega), h6, e, if_pos p2, if_pos (nI_le (Nat.le_refl _) (by omega)), if_pos p2]
    exact ⟨τ1, rfl, h1, h2⟩
  | succ d ih =>
    intro k n τ1 hik hk hn h1 h2
    obtain ⟨n, rfl⟩ : ∃ m, n = m + 1 := ⟨n - 1, by omega⟩
    have e : (8 : Int32) * nI s + nI c = nI (8 * s + c) := by rw [show (8 : Int32) = nI 8 from rfl, pk_mul, nI_add]
    have p2 : pmIn (nI s) 2 = true := pmIn_nI hs (by omega)
    have nle : ¬ nI (8 * s + c) ≤ nI (8 * s + k) := nI_ge (by omega) (by omega)
    have qk := h2 (8 * s + k + 1) (by omega)
    have z := h01 (k + 1) (by omega)
    rw [show shf (8 * s + i) (8 * s + k) (8 * s + k + 1) = 8 * s + k + 1 from if_neg (by omega)] at qk
    obtain ⟨τ2, c1, c2, c3, c4⟩ := M_copy (τ := τ1) (a := 8 * s + k + 1) (b := 8 * s + k) (by omega) (by omega) (by omega) (by rw [qk.1]; exact z.1) (by rw [qk.2.2.1]; exact z.2)
    rw [Mo_drop_b29, nI_clamp (by omega), h1 6 (by omega), h6, e, if_pos p2, if_neg nle, nI_1, c1, Option.bind_some]
    refine ih (k + 1) n τ2 (by omega) (by omega) (by omega) (fun c hc => by rw [c2 c hc, h1 c hc]) (fun q hq => ?_)
    by_cases hqk : q = 8 * s + k
    · subst hqk
      rw [show shf (8 * s + i) (8 * s + (k + 1)) (8 * s + k) = 8 * s + k + 1 from if_pos (by omega)]
      exact EqP_tr c3 qk
    · have := h2 q hq
      rw [show shf (8 * s + i) (8 * s + (k + 1)) q = shf (8 * s + i) (8 * s + k) q by
        unfold shf
        by_cases hz : 8 * s + i ≤ q ∧ q < 8 * s + k
        · rw [if_pos hz, if_pos (by omega)]
        · rw [if_neg hz, if_neg (by omega)]]
      exact EqP_tr (c4 q hq hqk) this
theorem ix_nI {p : Nat} (h : p < 1000) : ix (nI p) = p := nI_clamp (by omega)
theorem X_drp {σ : Mem} {s i c v : Nat} (hs : s < 2) (hc : c < 9) (hv : v < 1000) (h6 : σ (setC s) 1 = nI c) (hR : ∀ t, t < 9 → isPo (ix (σ (setC s + 1) t))) : ∀ (d k n : Nat) (σ1 : Mem), i ≤ k → k + d = c → d < n → (∀ c, c ≠ setC s + 1 → σ1 c = σ c) → (∀ t, t < 9 → ix (σ1 (setC s + 1) t) = ix (σ (setC s + 1) (shf i k t))) →
    ∃ σ2, Se_remove_b19 n (setC s) v (nI k) σ1 = some (nI c, σ2) ∧ (∀ c, c ≠ setC s + 1 → σ2 c = σ c) ∧ (∀ t, t < 9 → ix (σ2 (setC s + 1) t) = if t = c then v else ix (σ (setC s + 1) (shf i c t))) := by
  have sv := setC_v hs
  intro d
  induction d with
  | zero =>
    intro k n σ1 hik hk hn h1 h2
    obtain ⟨n, rfl⟩ : ∃ m, n = m + 1 := ⟨n - 1, by omega⟩
    obtain rfl : k = c := by omega
    rw [Se_remove_b19, h1 (setC s) (by omega), h6, if_pos (nI_le (Nat.le_refl _) (by omega)), if_pos (pmIn_nI hc (by omega)), nI_clamp (by omega), mrow_ne (by omega), h1 (setC s) (by omega), h6]
    refine ⟨_, rfl, fun c hc => by rw [mrow_ne hc]; exact h1 c hc, fun t ht => ?_⟩
    by_cases e : t = k
    · rw [e, mput_eq, if_pos rfl, ix_nI hv]
    · rw [mput_ne (by omega), if_neg e, h2 t ht]
  | succ d ih =>
    intro k n σ1 hik hk hn h1 h2
    obtain ⟨n, rfl⟩ : ∃ m, n = m + 1 := ⟨n - 1, by omega⟩
    have nle : ¬ nI c ≤ nI k := nI_ge (by omega) (by omega)
    have q1 : ix (σ1 (setC s + 1) (k + 1)) = ix (σ (setC s + 1) (k + 1)) := by
      rw [h2 (k + 1) (by omega), show shf i k (k + 1) = k + 1 from if_neg (by omega)]
    have hp : isPo (ix (σ1 (setC s + 1) (k + 1))) := by rw [q1]; exact hR (k + 1) (by omega)
    have hb := po_ne hp
    rw [Se_remove_b19, h1 (setC s) (by omega), h6, if_neg nle, nI_1, if_pos (pmIn_nI (by omega) (by omega)), nI_clamp (by omega), if_pos hp, if_pos (pmIn_nI (by omega) (by omega)), nI_clamp (by omega)]
    refine ih (k + 1) n _ (by omega) (by omega) (by omega) (fun c hc => by rw [mrow_ne hc]; exact h1 c hc) (fun t ht => ?_)
    by_cases e : t = k
    · rw [e, mput_eq, ix_nI (by omega), q1, show shf i (k + 1) k = k + 1 from if_pos (by omega)]
    · rw [mput_ne (by omega), h2 t ht]
      unfold shf
      by_cases hz : i ≤ t ∧ t < k
      · rw [if_pos hz, if_pos (by omega)]
      · rw [if_neg hz, if_neg (by omega)]
/-- a policy's place: the same yes or no on both sides -/
theorem isPol_c {σ τ : Mem} {M : Nat} (h : RelS σ τ M) (a b : Int32) : (Ps_isPolicy a b σ = some 0 ∧ Mo_isPolicy a b τ = some 0) ∨ ∃ s i c, s < 2 ∧ i < c ∧ c ≤ 8 ∧ a = nI s ∧ b = nI i ∧ σ (setC s) 1 = nI c ∧ τ 6 s = nI c ∧ Ps_isPolicy a b σ = some 1 ∧ Mo_isPolicy a b τ = some 1 := by
  unfold Ps_isPolicy Mo_isPolicy
  rcases isSet_c a with ⟨a1, a2⟩ | ⟨s, hs, rfl, a1, a2⟩
  · rw [if_pos a1, if_pos a2]
    exact Or.inl ⟨rfl, rfl⟩
  · rw [if_neg (n10 a1), if_neg (n10 a2)]
    by_cases b0 : b < 0
    · rw [if_pos b0, if_pos b0]
      exact Or.inl ⟨rfl, rfl⟩
    · obtain ⟨i, hi, rfl⟩ := nI_of b0
      obtain ⟨-, c, hc, e1, e2, -⟩ := h s hs
      rw [if_neg b0, if_neg b0, chosen_v hs, Option.bind_some, if_pos (pmIn_nI hs (by omega)), nI_clamp (by omega), e2, show Se_count (setC s) σ = some (σ (setC s) 1) from rfl, Option.bind_some, e1]
      by_cases hic : i < c
      · rw [if_neg (nI_ge hic (by omega))]
        exact Or.inr ⟨s, i, c, hs, hic, hc, rfl, rfl, e1, e2, rfl, rfl⟩
      · rw [if_pos (nI_le (by omega) (by omega))]
        exact Or.inl ⟨rfl, rfl⟩
def prm (i c t : Nat) : Nat := if t = c then i else shf i c t
theorem prm_lt {i c t : Nat} (hc : c < 9) (hi : i ≤ c) (ht : t < 9) : prm i c t < 9 := by
  unfold prm shf
  split
  · omega
  · split <;> omega
theorem prm_in {i c t u : Nat} (hi : i ≤ c) (h : prm i c t = prm i c u) : t = u := by
  unfold prm shf at h
  repeat' split at h
  all_goals omega
theorem S_drop : Stp_drop Rel := fun σ τ n h hn a b => by
  have h0 := h
  obtain ⟨h1, h2, M, h3, h4, h5⟩ := h
  unfold Ps_drop Mo_drop
  rcases isPol_c h5 a b with ⟨q1, q2⟩ | ⟨s, i, c, hs, hi, hc, rfl, rfl, e1, e2, q1, q2⟩
  · rw [q1, q2]
    exact ⟨-2, σ, τ, rfl, rfl, Rel_up σ τ n h0⟩
  · obtain ⟨hR, c', hc', e1', e2', hP⟩ := h5 s hs
    obtain rfl : c' = c := (nI_eq (by omega) (by omega)).mp (e1'.symm.trans e1)
    have sv := setC_v hs
    obtain ⟨k, rfl⟩ : ∃ k, c' = k + 1 := ⟨c' - 1, by omega⟩
    have em : nI (k + 1) - 1 = nI k := by rw [← nI_1]; simp
    have e : (8 : Int32) * nI s + nI i = nI (8 * s + i) := by rw [show (8 : Int32) = nI 8 from rfl, pk_mul, nI_add]
    have pi := (hR.1 i (by omega)).1
    have pb := po_ne pi
    obtain ⟨σ2, x1, x2, x3⟩ := X_drp (σ := mput σ (setC s) 1 (nI k)) (s := s) (i := i) (c := k) (v := ix (σ (setC s + 1) i)) hs (by omega) (by omega) mput_eq (fun t ht => by rw [mrow_ne (by omega)]; exact (hR.1 t ht).1) (k - i) i 2100 _ (Nat.le_refl _) (by omega) (by omega) (fun _ _ => rfl) (fun t ht => by rw [show shf i i t = t from if_neg (by omega)])
    obtain ⟨τ2, y1, y2, y3⟩ := M_drp (τ := mput τ 6 s (nI k)) (s := s) (i := i) (c := k) hs (by omega) mput_eq (fun t ht => by
      rw [mrow_ne (by omega), mrow_ne (by omega)]
      obtain ⟨cs, -, -, -, -, ⟨-, -, p3, p4, -⟩, -⟩ := hP t (by omega)
      exact ⟨by rw [p3.1]; exact p3.2, by rw [p4.1]; exact p4.2⟩) (k - i) i 2100 _ (Nat.le_refl _) (by omega) (by omega) (fun _ _ => rfl) (fun q hq => by rw [show shf (8 * s + i) (8 * s + i) q = q from if_neg (by omega)]; exact EqP_rf _ _)
    have p2 : pmIn (nI s) 2 = true := pmIn_nI hs (by omega)
    rw [q1, q2, Option.bind_some, Option.bind_some, if_neg (by decide), if_pos (by decide), if_pos p2, if_pos p2, nI_clamp (by omega), e2, em, e, chosen_v hs, Option.bind_some]
    refine ⟨nI k, σ2, τ2, ?_, y1, ?_⟩
    · unfold Se_remove
      rw [if_pos (pmIn_nI (by omega) (by omega)), nI_clamp (by omega), if_pos pi, e1, em]
      show ((Se_remove_b19 2100 (setC s) _ _ _).bind _) = _
      rw [x1]
      rfl
    · have rm : ∀ t, t < 9 → ix (σ2 (setC s + 1) t) = ix (σ (setC s + 1) (prm i k t)) := fun t ht => by
        rw [x3 t ht, mrow_ne (by omega)]
        unfold prm
        by_cases z : t = k
        · rw [if_pos z, if_pos z]
        · rw [if_neg z, if_neg z]
      have fx : ∀ c, c ≠ setC s → c ≠ setC s + 1 → σ2 c = σ c := fun c a b => by rw [x2 c b, mrow_ne a]
      have ft : ∀ c, c < 6 ∨ 13 < c → τ2 c = τ c := fun c a => by rw [y2 c (by omega), mrow_ne (by omega)]
      have wx : WldX σ σ2 := fun c a b => fx c (by omega) (by omega)
      refine ⟨RelW_cg h1 wx (fun c a b => ft c (by omega)), RelT_cg h2 (by rw [fx 15 (by omega) (by omega)]) (fx 16 (by omega) (by omega)) (by rw [ft 0 (by omega)]) (ft 5 (by omega)), M, by omega, by rw [fx 1 (by omega) (by omega)]; exact h4, fun s' hs' => ?_⟩
      have eqp : ∀ q, q < 17 → EqP τ2 q τ (shf (8 * s + i) (8 * s + k) q) := fun q hq => by
        have := y3 q hq
        unfold EqP at this ⊢
        rw [mrow_ne (by omega), mrow_ne (by omega), mrow_ne (by omega), mrow_ne (by omega), mrow_ne (by omega), mrow_ne (by omega), mrow_ne (by omega)] at this
        exact this
      by_cases hss : s' = s
      · subst hss
        refine ⟨⟨fun t ht => by rw [rm t ht]; exact hR.1 _ (prm_lt (by omega) (by omega) ht), fun t u ht hu z => ?_⟩, k, by omega, by rw [x2 (setC s') (by omega), mput_eq], by rw [y2 6 (by omega), mput_eq], fun t ht => ?_⟩
        · rw [rm t ht, rm u hu] at z
          exact prm_in (by omega) (hR.2 _ _ (prm_lt (by omega) (by omega) ht) (prm_lt (by omega) (by omega) hu) z)
        · rw [rm t (by omega), show prm i k t = shf i k t from if_neg (by omega)]
          have hsh : shf i k t < k + 1 ∧ shf (8 * s' + i) (8 * s' + k) (8 * s' + t) = 8 * s' + shf i k t := by
            unfold shf
            split <;> split <;> omega
          have := eqp (8 * s' + t) (by omega)
          rw [hsh.2] at this
          have hp := (hR.1 _ (show shf i k t < 9 by omega)).2
          unfold polIn at hp
          exact RelP_eq (RelP_cg (hP _ hsh.1) (fun c a b => fx c (by omega) (by omega)) wx (fun _ _ _ => rfl)) this
      · have sv' := setC_v hs'
        obtain ⟨hR', c, hc2, f1, f2, hP'⟩ := h5 s' hs'
        have r1 : σ2 (setC s' + 1) = σ (setC s' + 1) := fx _ (by omega) (by omega)
        refine ⟨?_, c, hc2, by rw [fx _ (by omega) (by omega)]; exact f1, by rw [y2 6 (by omega), mput_ne (by omega)]; exact f2, fun t ht => ?_⟩
        · unfold RelRm
          rw [r1]
          exact hR'
        · rw [r1]
          have := eqp (8 * s' + t) (by omega)
          rw [show shf (8 * s + i) (8 * s + k) (8 * s' + t) = 8 * s' + t from if_neg (by omega)] at this
          have hp := (hR'.1 t (by omega)).2
          unfold polIn at hp
          exact RelP_eq (RelP_cg (hP' t ht) (fun c a b => fx c (by omega) (by omega)) wx (fun _ _ _ => rfl)) this
