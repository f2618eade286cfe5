/-- the text, byte for byte -/
def RelT (σ τ : Mem) : Prop := ∃ n, n ≤ 160 ∧ σ 15 1 = nI n ∧ τ 0 4 = nI n ∧ ∀ k, k < n → σ 16 k = τ 5 k ∧ ∃ b, b < 256 ∧ σ 16 k = nI b
def FrTX (σ σ1 : Mem) : Prop := (∀ c, c ≠ 15 → c ≠ 16 → σ1 c = σ c) ∧ ∀ k, k ≠ 1 → σ1 15 k = σ 15 k
def FrTM (τ τ1 : Mem) : Prop := (∀ c, c ≠ 0 → c ≠ 5 → τ1 c = τ c) ∧ ∀ k, k ≠ 4 → τ1 0 k = τ 0 k
theorem byte_eq (v : Int64) (y : Int64) : ((v >>> y) &&& 255).toInt32 = (v >>> y).toInt32 &&& 255 := by
  rw [Int64.toInt32_and]
  rfl
theorem putL {v : Int64} {n m : Nat} (hnm : n + m ≤ 160) (hm : m ≤ 8) : ∀ (r i f g : Nat) (σ τ : Mem), i + r = m → σ 15 1 = nI n → τ 0 4 = nI (n + i) → (∀ k, k < n + i → σ 16 k = τ 5 k ∧ ∃ b, b < 256 ∧ σ 16 k = nI b) →
    ∃ σ1 τ1, Re_append_b17 (f + r + 1) v (nI m) (nI i) σ = some (1, σ1) ∧ Mo_put_b32 (g + r + 1) v (nI m) (nI i) τ = some (nI (n + m), τ1) ∧ RelT σ1 τ1 ∧ σ1 15 1 = nI (n + m) ∧ FrTX σ σ1 ∧ FrTM τ τ1 := by
  intro r
  induction r with
  | zero =>
    intro i f g σ τ hi hs ht hk
    obtain rfl : i = m := by omega
    refine ⟨mput σ 15 1 (nI (n + i)), τ, ?_, ?_, ⟨n + i, hnm, mput_eq, ht, fun k hk2 => ?_⟩, mput_eq, ⟨fun c h1 h2 => mrow_ne h1, fun k hk => mput_ne (by omega)⟩, ⟨fun _ _ _ => rfl, fun _ _ => rfl⟩⟩
    · rw [Re_append_b17, if_pos (nI_le (Nat.le_refl _) (by omega)), hs, nI_add]
    · rw [Mo_put_b32, if_pos (nI_le (Nat.le_refl _) (by omega)), ht]
    · rw [mput_ne (by omega)]
      exact hk k hk2
  | succ r ih =>
    intro i f g σ τ hi hs ht hk
    have hlt : ¬ nI m ≤ nI i := nI_ge (a := i) (b := m) (by omega) (by omega)
    obtain ⟨b, hb, eb⟩ := pk_andE ((v >>> ((8 * nI i).toInt64 &&& 63)).toInt32) (m := 255) 8 rfl
    obtain ⟨σ1, τ1, h1, h2, h3, h4, h5, h6⟩ := ih (i + 1) f g (mput σ 16 (n + i) ((v >>> ((8 * nI i).toInt64 &&& 63)).toInt32 &&& 255)) (mput (mput τ 5 (n + i) ((v >>> ((8 * nI i).toInt64 &&& 63)).toInt32 &&& 255)) 0 4 (nI (n + i + 1))) (by omega) (by rw [mput_ne (by omega)]; exact hs) mput_eq (fun k hk2 => by
      by_cases e : k = n + i
      · subst e
        rw [mput_eq, mput_ne (by omega), mput_eq]
        exact ⟨rfl, b, hb, eb⟩
      · rw [mput_ne (by omega), mput_ne (by omega), mput_ne (by omega)]
        exact hk k (by omega))
    refine ⟨σ1, τ1, ?_, ?_, h3, h4, ⟨fun c q1 q2 => ?_, fun k q => ?_⟩, ⟨fun c q1 q2 => ?_, fun k q => ?_⟩⟩
    · rw [Re_append_b17, if_neg hlt, hs, nI_add, if_pos (pmIn_nI (by omega) (by omega)), nI_clamp (by omega), nI_1]
      exact h1
    · rw [Mo_put_b32, if_neg hlt, ht, if_pos (pmIn_nI (by omega) (by omega)), nI_clamp (by omega), nI_1, byte_eq, mput_ne (by omega), ht, nI_1]
      exact h2
    · rw [h5.1 c q1 q2, mrow_ne q2]
    · rw [h5.2 k q, mput_ne (by omega)]
    · rw [h6.1 c q1 q2, mrow_ne q1, mrow_ne q2]
    · rw [h6.2 k q, mput_ne (by omega), mput_ne (by omega)]
theorem T_put {σ τ : Mem} (h : RelT σ τ) (a : Int64) (b : Int32) : ∃ (r : Int32) (σ1 τ1 : Mem), Ps_put a b σ = some (r, σ1) ∧ Mo_put a b τ = some (r, τ1) ∧ RelT σ1 τ1 ∧ FrTX σ σ1 ∧ FrTM τ τ1 := by
  have no : FrTX σ σ ∧ FrTM τ τ := ⟨⟨fun _ _ _ => rfl, fun _ _ => rfl⟩, ⟨fun _ _ _ => rfl, fun _ _ => rfl⟩⟩
  unfold Ps_put Mo_put
  by_cases h1 : b < 1
  · exact ⟨-2, σ, τ, if_pos h1, if_pos h1, h, no.1, no.2⟩
  · rw [if_neg h1, if_neg h1]
    by_cases h8 : b ≤ 8
    · rw [if_pos h8, if_pos h8]
      obtain ⟨n, hn, e1, e2, hk⟩ := h
      have h0 : ¬ b < 0 := by
        rw [Int32.lt_iff_toInt_lt, show (1 : Int32).toInt = 1 from rfl] at h1
        rw [Int32.lt_iff_toInt_lt, ti0]
        omega
      obtain ⟨m, hm2, rfl⟩ := nI_of h0
      have hm : m ≤ 8 := (nI_leI (b := 8) hm2 (by omega)).mp h8
      unfold Re_append
      rw [e1, e2, nI_add]
      by_cases hf : n + m ≤ 160
      · have q : nI (n + m) ≤ 160 := nI_le (b := 160) hf (by omega)
        rw [if_pos q, if_pos q]
        obtain ⟨σ1, τ1, x1, x2, x3, x4, x5, x6⟩ := putL (v := a) hf hm m 0 (2099 - m) (2099 - m) σ τ (by omega) e1 e2 (fun k hk2 => hk k (by omega))
        have ef : FU = 2099 - m + m + 1 := by
          show 2100 = _
          omega
        rw [ef]
        refine ⟨nI (n + m), σ1, τ1, ?_, x2, x3, x5, x6⟩
        have x1' : Re_append_b17 (2099 - m + m + 1) a (nI m) 0 σ = some (1, σ1) := x1
        rw [x1']
        show ((if (1 : Int32) = 0 then some ((-3 : Int32), σ1) else (Re_length σ1).bind fun q30 => some (q30, σ1)) : Option (Int32 × Mem)) = _
        rw [if_neg (show ¬ (1 : Int32) = 0 by decide)]
        unfold Re_length
        show some (σ1 15 1, σ1) = _
        rw [x4]
      · have q : ¬ nI (n + m) ≤ 160 := nI_ge (a := 160) (b := n + m) (by omega) (by omega)
        rw [if_neg q, if_neg q]
        exact ⟨-3, σ, τ, rfl, rfl, ⟨n, hn, e1, e2, hk⟩, no.1, no.2⟩
    · rw [if_neg h8, if_neg h8]
      exact ⟨-2, σ, τ, rfl, rfl, h, no.1, no.2⟩
theorem T_wipe {σ τ : Mem} (h : RelT σ τ) : ∃ (r : Int32) (σ1 τ1 : Mem), Ps_wipe σ = some (r, σ1) ∧ Mo_wipe τ = some (r, τ1) ∧ RelT σ1 τ1 ∧ FrTX σ σ1 ∧ FrTM τ τ1 := by
  obtain ⟨n, hn, e1, e2, hk⟩ := h
  refine ⟨nI n, mput σ 15 1 0, mput τ 0 4 0, ?_, ?_, ⟨0, by omega, mput_eq, mput_eq, fun k hk => by omega⟩, ⟨fun c h1 h2 => mrow_ne h1, fun k hk => mput_ne (by omega)⟩, ⟨fun c h1 h2 => mrow_ne h1, fun k hk => mput_ne (by omega)⟩⟩
  · unfold Ps_wipe Re_clear
    rw [e1]
    rfl
  · unfold Mo_wipe
    rw [e2]
