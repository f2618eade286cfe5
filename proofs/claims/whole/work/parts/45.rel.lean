def setC (s : Nat) : Nat := if s = 0 then 17 else 64
def polIn (s p : Nat) : Prop := (s = 0 ∧ 19 ≤ p ∧ p ≤ 59) ∨ (s = 1 ∧ 66 ≤ p ∧ p ≤ 106)
/-- the rooms of a set hold its nine policies, each once -/
def RelRm (σ : Mem) (s : Nat) : Prop := (∀ i, i < 9 → isPo (ix (σ (setC s + 1) i)) ∧ polIn s (ix (σ (setC s + 1) i))) ∧ ∀ i j, i < 9 → j < 9 → ix (σ (setC s + 1) i) = ix (σ (setC s + 1) j) → i = j
/-- verdicts look at the world, at the person, the thing, and at the bits of L -/
def DepW (cs : List (Den × Bool)) : Prop := ∀ σ σ1 r, WldX σ σ1 → vd cs σ1 r = vd cs σ r
def DepL (L : Int32) (cs : List (Den × Bool)) : Prop := ∀ σw r r1, OkW σw → r < 2048 → r1 < 2048 → r / 512 = r1 / 512 → r / 32 % 4 = r1 / 32 % 4 → nI (r % 32) &&& L = nI (r1 % 32) &&& L → vd cs σw r = vd cs σw r1
def bitAt (x : Int32) (g : Nat) : Prop := (x >>> (nI g &&& 31)) &&& 1 = 1
def CacheOk (σ : Mem) (p : Nat) (cs : List (Den × Bool)) : Prop := ∀ r, r < 2048 → (bitAt (σ (p + 3) (r / 32)) (r % 32) ↔ vp (σ p 4) (σ p 5) (σ p 6) cs σ r = 1) ∧ (bitAt (σ (p + 4) (r / 32)) (r % 32) ↔ vp (σ p 4) (σ p 5) (σ p 6) cs σ r = 2)
def PolX (σ : Mem) (p : Nat) (cs : List (Den × Bool)) : Prop := ∃ m, σ p 9 = nI m ∧ m ≤ 160 ∧ CondsX (σ (p + 1)) (σ (p + 2)) m 0 cs
def PolM (τ : Mem) (q : Nat) (cs : List (Den × Bool)) : Prop := ∃ m, τ 11 q = nI m ∧ m ≤ 160 ∧ CondsM (fun i => τ 12 (160 * q + i)) (fun i => τ 13 (160 * q + i)) m 0 cs
def PolS (σ τ : Mem) (p q : Nat) : Prop := (isScp 8 (σ p 4) ∧ isScp 4 (σ p 5) ∧ isScp 8 (σ p 6)) ∧ (τ 8 (3 * q) = σ p 4 ∧ τ 8 (3 * q + 1) = σ p 5 ∧ τ 8 (3 * q + 2) = σ p 6) ∧ (τ 7 q = σ p 0 ∧ (σ p 0 = 0 ∨ σ p 0 = 1)) ∧ (τ 10 q = σ p 1 ∧ (σ p 1 = 0 ∨ σ p 1 = 1)) ∧ τ 9 q = σ p 2
def RelP (σ τ : Mem) (M p q : Nat) : Prop := ∃ cs, PolX σ p cs ∧ PolM τ q cs ∧ DepW cs ∧ DepL (σ p 3) cs ∧ PolS σ τ p q ∧ (σ p 12 = -1 ∨ ∃ z, z ≤ M ∧ σ p 12 = nI z) ∧ (σ p 12 = nI M → CacheOk σ p cs)
def RelS (σ τ : Mem) (M : Nat) : Prop := ∀ s, s < 2 → RelRm σ s ∧ ∃ c, c ≤ 8 ∧ σ (setC s) 1 = nI c ∧ τ 6 s = nI c ∧ ∀ i, i < c → RelP σ τ M (ix (σ (setC s + 1) i)) (8 * s + i)
def Rel (σ τ : Mem) (n : Nat) : Prop := RelW σ τ ∧ RelT σ τ ∧ ∃ M, M ≤ n ∧ σ 1 5 = nI M ∧ RelS σ τ M
theorem Rel_up (σ τ : Mem) (n : Nat) (h : Rel σ τ n) : Rel σ τ (n + 1) := by
  obtain ⟨h1, h2, M, h3, h4, h5⟩ := h
  exact ⟨h1, h2, M, by omega, h4, h5⟩
theorem vp_w {sp sd st : Int32} {cs : List (Den × Bool)} {σ σ1 : Mem} (h : DepW cs) (hw : WldX σ σ1) (r : Nat) : vp sp sd st cs σ1 r = vp sp sd st cs σ r := by
  unfold vp
  rw [h σ σ1 r hw, hw 5 (by omega) (by omega), hw 9 (by omega) (by omega)]
theorem PolX_cg {σ σ1 : Mem} {p : Nat} {cs : List (Den × Bool)} (h : PolX σ p cs) (e0 : σ1 p = σ p) (e1 : σ1 (p + 1) = σ (p + 1)) (e2 : σ1 (p + 2) = σ (p + 2)) : PolX σ1 p cs := by
  unfold PolX
  rw [e0, e1, e2]
  exact h
theorem PolM_cg {τ τ1 : Mem} {q : Nat} {cs : List (Den × Bool)} (h : PolM τ q cs) (e0 : τ1 11 = τ 11) (e1 : τ1 12 = τ 12) (e2 : τ1 13 = τ 13) : PolM τ1 q cs := by
  unfold PolM
  rw [e0, e1, e2]
  exact h
/-- nothing of the policy, of its world, of the reference's rows has changed -/
theorem RelP_cg {σ σ1 τ τ1 : Mem} {M p q : Nat} (h : RelP σ τ M p q) (c1 : ∀ c, p ≤ c → c ≤ p + 4 → σ1 c = σ c) (cw : WldX σ σ1) (c2 : ∀ c, 7 ≤ c → c ≤ 13 → τ1 c = τ c) : RelP σ1 τ1 M p q := by
  obtain ⟨cs, h1, h2, h3, h4, h5, h6, h7⟩ := h
  have e0 := c1 p (by omega) (by omega)
  refine ⟨cs, PolX_cg h1 e0 (c1 _ (by omega) (by omega)) (c1 _ (by omega) (by omega)), PolM_cg h2 (c2 _ (by omega) (by omega)) (c2 _ (by omega) (by omega)) (c2 _ (by omega) (by omega)), h3, by rw [e0]; exact h4, ?_, by rw [e0]; exact h6, fun hM => ?_⟩
  · unfold PolS
    rw [e0, c2 8 (by omega) (by omega), c2 7 (by omega) (by omega), c2 10 (by omega) (by omega), c2 9 (by omega) (by omega)]
    exact h5
  · rw [e0] at hM
    intro r hr
    rw [e0, c1 (p + 3) (by omega) (by omega), c1 (p + 4) (by omega) (by omega), vp_w h3 cw]
    exact h7 hM r hr
/-- the world has changed: no cache counts -/
theorem RelP_tick {σ σ1 τ τ1 : Mem} {M p q : Nat} (hM : M < 1000) (h : RelP σ τ M p q) (c1 : ∀ c, p ≤ c → c ≤ p + 4 → σ1 c = σ c) (c2 : ∀ c, 7 ≤ c → c ≤ 13 → τ1 c = τ c) : RelP σ1 τ1 (M + 1) p q := by
  obtain ⟨cs, h1, h2, h3, h4, h5, h6, h7⟩ := h
  have e0 := c1 p (by omega) (by omega)
  refine ⟨cs, PolX_cg h1 e0 (c1 _ (by omega) (by omega)) (c1 _ (by omega) (by omega)), PolM_cg h2 (c2 _ (by omega) (by omega)) (c2 _ (by omega) (by omega)) (c2 _ (by omega) (by omega)), h3, by rw [e0]; exact h4, ?_, ?_, fun z => ?_⟩
  · unfold PolS
    rw [e0, c2 8 (by omega) (by omega), c2 7 (by omega) (by omega), c2 10 (by omega) (by omega), c2 9 (by omega) (by omega)]
    exact h5
  · rw [e0]
    rcases h6 with h6 | ⟨z, hz, e⟩
    · exact Or.inl h6
    · exact Or.inr ⟨z, by omega, e⟩
  · rw [e0] at z
    rcases h6 with h6 | ⟨y, hy, e⟩
    · rw [h6] at z
      have := nI_pos (n := M + 1) (by omega)
      rw [← z] at this
      exact absurd (by decide) this
    · rw [e] at z
      have := (nI_eq (by omega) (by omega)).mp z
      omega
theorem setC_v {s : Nat} (hs : s < 2) : (s = 0 ∧ setC s = 17) ∨ (s = 1 ∧ setC s = 64) := by
  unfold setC
  split <;> omega
theorem RelS_cg {σ σ1 τ τ1 : Mem} {M : Nat} (h : RelS σ τ M) (c1 : ∀ c, 17 ≤ c → c ≤ 110 → σ1 c = σ c) (cw : WldX σ σ1) (c2 : ∀ c, 6 ≤ c → c ≤ 13 → τ1 c = τ c) : RelS σ1 τ1 M := by
  intro s hs
  obtain ⟨h1, c, hc, e1, e2, h2⟩ := h s hs
  have sv := setC_v hs
  have r1 := c1 (setC s + 1) (by omega) (by omega)
  refine ⟨?_, c, hc, by rw [c1 (setC s) (by omega) (by omega)]; exact e1, by rw [c2 6 (by omega) (by omega)]; exact e2, fun i hi => ?_⟩
  · unfold RelRm
    rw [r1]
    exact h1
  · rw [r1]
    have hp := (h1.1 i (by omega)).2
    unfold polIn at hp
    exact RelP_cg (h2 i hi) (fun c a b => c1 c (by omega) (by omega)) cw (fun c a b => c2 c (by omega) (by omega))
theorem RelS_tick {σ σ1 τ τ1 : Mem} {M : Nat} (hM : M < 1000) (h : RelS σ τ M) (c1 : ∀ c, 17 ≤ c → c ≤ 110 → σ1 c = σ c) (c2 : ∀ c, 6 ≤ c → c ≤ 13 → τ1 c = τ c) : RelS σ1 τ1 (M + 1) := by
  intro s hs
  obtain ⟨h1, c, hc, e1, e2, h2⟩ := h s hs
  have sv := setC_v hs
  have r1 := c1 (setC s + 1) (by omega) (by omega)
  refine ⟨?_, c, hc, by rw [c1 (setC s) (by omega) (by omega)]; exact e1, by rw [c2 6 (by omega) (by omega)]; exact e2, fun i hi => ?_⟩
  · unfold RelRm
    rw [r1]
    exact h1
  · rw [r1]
    have hp := (h1.1 i (by omega)).2
    unfold polIn at hp
    exact RelP_tick hM (h2 i hi) (fun c a b => c1 c (by omega) (by omega)) (fun c a b => c2 c (by omega) (by omega))
theorem RelT_cg {σ σ1 τ τ1 : Mem} (h : RelT σ τ) (a : σ1 15 1 = σ 15 1) (b : σ1 16 = σ 16) (c : τ1 0 4 = τ 0 4) (d : τ1 5 = τ 5) : RelT σ1 τ1 := by
  unfold RelT
  rw [a, b, c, d]
  exact h
theorem RelW_cg {σ σ1 τ τ1 : Mem} (h : RelW σ τ) (cw : WldX σ σ1) (ct : WldM τ τ1) : RelW σ1 τ1 := by
  obtain ⟨a1, a2, a3, a4, a5⟩ := h
  refine ⟨fun s hs g hg => ?_, fun g hg => ?_, fun g hg => ?_, fun k hk => ?_, fun g hg => ?_⟩
  · have r2 := rowC_v s hs
    rw [cw _ (by omega) (by omega), ct 1 (by omega) (by omega)]
    exact a1 s hs g hg
  · rw [cw 5 (by omega) (by omega), cw 4 (by omega) (by omega), cw 3 (by omega) (by omega)]
    exact a2 g hg
  · rw [cw 9 (by omega) (by omega), cw 8 (by omega) (by omega), cw 7 (by omega) (by omega)]
    exact a3 g hg
  · rw [cw 10 (by omega) (by omega), ct 2 (by omega) (by omega)]
    exact a4 k hk
  · rw [cw 11 (by omega) (by omega), cw 12 (by omega) (by omega), ct 3 (by omega) (by omega), ct 4 (by omega) (by omega)]
    exact a5 g hg
theorem Rel_W {σ τ σ1 τ1 : Mem} {n : Nat} (hn : n < 512) (h : Rel σ τ n) (hw : WStep σ τ σ1 τ1) : Rel σ1 τ1 (n + 1) := by
  obtain ⟨h1, h2, M, h3, h4, h5⟩ := h
  obtain ⟨w1, ⟨f1, f2, -, -, -⟩, ⟨g1, g2⟩, w4⟩ := hw
  rcases w4 with ⟨rfl, rfl⟩ | w4
  · exact ⟨h1, h2, M, by omega, h4, h5⟩
  · refine ⟨w1, RelT_cg h2 (by rw [f1 15 (by omega)]) (f1 16 (by omega)) (by rw [g2]) (g1 5 (by omega)), M + 1, by omega, by rw [w4, h4, nI_1], RelS_tick (by omega) h5 (fun c a b => f1 c (by omega)) (fun c a b => g1 c (by omega))⟩
theorem Rel_T {σ τ σ1 τ1 : Mem} {n : Nat} (h : Rel σ τ n) (ht : RelT σ1 τ1) (fx : FrTX σ σ1) (fm : FrTM τ τ1) : Rel σ1 τ1 (n + 1) := by
  obtain ⟨h1, h2, M, h3, h4, h5⟩ := h
  refine ⟨RelW_cg h1 (fun c a b => fx.1 c (by omega) (by omega)) (fun c a b => fm.1 c (by omega) (by omega)), ht, M, by omega, by rw [fx.1 1 (by omega) (by omega)]; exact h4, RelS_cg h5 (fun c a b => fx.1 c (by omega) (by omega)) (fun c a b => fx.1 c (by omega) (by omega)) (fun c a b => fm.1 c (by omega) (by omega))⟩
/-- the judge's and the reference's own rows alone have changed -/
theorem Rel_J {σ τ σ1 τ1 : Mem} {n : Nat} (h : Rel σ τ n) (fx : Fx1 σ σ1) (fm : FxM τ τ1) : Rel σ1 τ1 (n + 1) := by
  obtain ⟨h1, h2, M, h3, h4, h5⟩ := h
  refine ⟨RelW_cg h1 (fun c a b => fx.1 c (by omega) (by omega)) (fun c a b => fm c (by omega)), RelT_cg h2 (by rw [fx.1 15 (by omega) (by omega)]) (fx.1 16 (by omega) (by omega)) (by rw [fm 0 (by omega)]) (fm 5 (by omega)), M, by omega, by rw [fx.1 1 (by omega) (by omega)]; exact h4, RelS_cg h5 (fun c a b => fx.1 c (by omega) (by omega)) (fun c a b => fx.1 c (by omega) (by omega)) (fun c a b => fm c (by omega))⟩
theorem isSet_c (v : Int32) : (Ps_isSet v = 0 ∧ Mo_isSet v = 0) ∨ ∃ s, s < 2 ∧ v = nI s ∧ Ps_isSet v = 1 ∧ Mo_isSet v = 1 := by
  by_cases h0 : v < 0
  · left
    have n0 : ¬ v = 0 := fun z => absurd h0 (by rw [z]; decide)
    have n1 : ¬ v = 1 := fun z => absurd h0 (by rw [z]; decide)
    unfold Ps_isSet Mo_isSet
    rw [if_pos h0, if_neg n0, if_pos n1]
    exact ⟨rfl, rfl⟩
  · obtain ⟨w, hw, rfl⟩ := nI_of h0
    unfold Ps_isSet Mo_isSet
    rw [if_neg h0]
    by_cases h : w < 2
    · right
      have q1 : ¬ (2 : Int32) ≤ nI w := nI_ge (a := w) (b := 2) h (by omega)
      refine ⟨w, h, rfl, by rw [if_neg q1], ?_⟩
      rcases (show w = 0 ∨ w = 1 by omega) with rfl | rfl <;> decide
    · left
      have q1 : (2 : Int32) ≤ nI w := nI_le (a := 2) (by omega) hw
      have n0 : ¬ nI w = 0 := nI_ne0 (by omega) hw
      have n1 : ¬ nI w = 1 := fun z => by
        have := (nI_eq (b := 1) hw (by omega)).mp z
        omega
      rw [if_pos q1, if_neg n0, if_pos n1]
      exact ⟨rfl, rfl⟩
theorem chosen_v {s : Nat} {σ : Mem} (hs : s < 2) : Ps_chosen (nI s) σ = some (setC s) := by
  rcases (show s = 0 ∨ s = 1 by omega) with rfl | rfl <;> rfl
