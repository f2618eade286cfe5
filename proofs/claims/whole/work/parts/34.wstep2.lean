theorem WStep_mark {σ τ : Mem} {k : Nat} {y : Int32} (h : RelW σ τ) (_ : k < 16) (h1 : -1 ≤ y) (h2 : y ≤ 7) : WStep σ τ (mput (mput σ 1 5 (σ 1 5 + 1)) 10 k y) (mput τ 2 k y) := by
  have rng : ∀ c, c ≠ 1 → c ≠ 10 → mput (mput σ 1 5 (σ 1 5 + 1)) 10 k y c = σ c := fun c hc hd => by rw [mrow_ne hd, mrow_ne hc]
  have rnt : ∀ c, c ≠ 2 → mput τ 2 k y c = τ c := fun c hc => mrow_ne hc
  obtain ⟨a1, a2, a3, a4, a5⟩ := h
  refine ⟨⟨fun s2 hs2 g hg => ?_, fun g hg => ?_, fun g hg => ?_, fun q hq => ?_, fun g hg => ?_⟩, ⟨fun c hc => rng c (by omega) (by omega), fun q hq => ?_, rng 0 (by omega) (by omega), rng 2 (by omega) (by omega), rng 6 (by omega) (by omega)⟩, ⟨fun c hc => rnt c (by omega), rnt 0 (by omega)⟩, Or.inr ?_⟩
  · have r2 := rowC_v s2 hs2
    rw [rng _ (by omega) (by omega), rnt 1 (by omega)]
    exact a1 s2 hs2 g hg
  · rw [rng 5 (by omega) (by omega), rng 4 (by omega) (by omega), rng 3 (by omega) (by omega)]
    exact a2 g hg
  · rw [rng 9 (by omega) (by omega), rng 8 (by omega) (by omega), rng 7 (by omega) (by omega)]
    exact a3 g hg
  · by_cases e : q = k
    · subst e
      rw [mput_eq, mput_eq]
      exact ⟨rfl, h1, h2⟩
    · rw [mput_ne (by omega), mput_ne (by omega), mrow_ne (by omega)]
      exact a4 q hq
  · rw [rng 11 (by omega) (by omega), rng 12 (by omega) (by omega), rnt 3 (by omega), rnt 4 (by omega)]
    exact a5 g hg
  · rw [mput_ne (by omega), mput_ne (by omega)]
  · rw [mput_ne (by omega), mput_eq]
theorem WStep_thing {σ τ : Mem} {k : Nat} {y z : Int32} (h : RelW σ τ) (_ : k < 4) (h1 : 0 ≤ y ∧ y ≤ 7) (h2 : 0 ≤ z ∧ z ≤ 3) : WStep σ τ (mput (mput (mput σ 1 5 (σ 1 5 + 1)) 11 k y) 12 k z) (mput (mput τ 3 k y) 4 k z) := by
  have rng : ∀ c, c ≠ 1 → c ≠ 11 → c ≠ 12 → mput (mput (mput σ 1 5 (σ 1 5 + 1)) 11 k y) 12 k z c = σ c := fun c hc hd he => by rw [mrow_ne he, mrow_ne hd, mrow_ne hc]
  have rnt : ∀ c, c ≠ 3 → c ≠ 4 → mput (mput τ 3 k y) 4 k z c = τ c := fun c hc hd => by rw [mrow_ne hd, mrow_ne hc]
  obtain ⟨a1, a2, a3, a4, a5⟩ := h
  refine ⟨⟨fun s2 hs2 g hg => ?_, fun g hg => ?_, fun g hg => ?_, fun q hq => ?_, fun g hg => ?_⟩, ⟨fun c hc => rng c (by omega) (by omega) (by omega), fun q hq => ?_, rng 0 (by omega) (by omega) (by omega), rng 2 (by omega) (by omega) (by omega), rng 6 (by omega) (by omega) (by omega)⟩, ⟨fun c hc => rnt c (by omega) (by omega), rnt 0 (by omega) (by omega)⟩, Or.inr ?_⟩
  · have r2 := rowC_v s2 hs2
    rw [rng _ (by omega) (by omega) (by omega), rnt 1 (by omega) (by omega)]
    exact a1 s2 hs2 g hg
  · rw [rng 5 (by omega) (by omega) (by omega), rng 4 (by omega) (by omega) (by omega), rng 3 (by omega) (by omega) (by omega)]
    exact a2 g hg
  · rw [rng 9 (by omega) (by omega) (by omega), rng 8 (by omega) (by omega) (by omega), rng 7 (by omega) (by omega) (by omega)]
    exact a3 g hg
  · rw [rng 10 (by omega) (by omega) (by omega), rnt 2 (by omega) (by omega)]
    exact a4 q hq
  · by_cases e : g = k
    · subst e
      have e1 : mput (mput (mput σ 1 5 (σ 1 5 + 1)) 11 g y) 12 g z 11 g = y := by rw [mput_ne (by omega), mput_eq]
      have e2 : mput (mput (mput σ 1 5 (σ 1 5 + 1)) 11 g y) 12 g z 12 g = z := mput_eq
      have e3 : mput (mput τ 3 g y) 4 g z 3 g = y := by rw [mput_ne (by omega), mput_eq]
      have e4 : mput (mput τ 3 g y) 4 g z 4 g = z := mput_eq
      rw [e1, e2, e3, e4]
      exact ⟨⟨rfl, h1⟩, ⟨rfl, h2⟩⟩
    · have e1 : mput (mput (mput σ 1 5 (σ 1 5 + 1)) 11 k y) 12 k z 11 g = σ 11 g := by rw [mput_ne (by omega), mput_ne (by omega), mput_ne (by omega)]
      have e2 : mput (mput (mput σ 1 5 (σ 1 5 + 1)) 11 k y) 12 k z 12 g = σ 12 g := by rw [mput_ne (by omega), mput_ne (by omega), mput_ne (by omega)]
      have e3 : mput (mput τ 3 k y) 4 k z 3 g = τ 3 g := by rw [mput_ne (by omega), mput_ne (by omega)]
      have e4 : mput (mput τ 3 k y) 4 k z 4 g = τ 4 g := by rw [mput_ne (by omega), mput_ne (by omega)]
      rw [e1, e2, e3, e4]
      exact a5 g hg
  · rw [mput_ne (by omega), mput_ne (by omega), mput_ne (by omega)]
  · rw [mput_ne (by omega), mput_ne (by omega), mput_eq]
theorem set_mark {s w : Nat} {y : Int32} {σ : Mem} (hs : s < 4) (hw : w < 4) : Wo_setMark (nI s) (nI w) y σ = some (mput (mput σ 1 5 (σ 1 5 + 1)) 10 (4 * s + w) y) := by
  unfold Wo_setMark
  have e : nI s * (4 : Int32) + nI w = nI (4 * s + w) := by
    rw [show (4 : Int32) = nI 4 from rfl, pk_mul, nI_add, Nat.mul_comm]
  rw [e, if_pos (pmIn_nI (by omega) (by omega)), nI_clamp (by omega)]
theorem set_thing {s : Nat} {y z : Int32} {σ : Mem} (hs : s < 4) : Wo_setThing (nI s) y z σ = some (mput (mput (mput σ 1 5 (σ 1 5 + 1)) 11 s y) 12 s z) := by
  unfold Wo_setThing
  rw [if_pos (pmIn_nI hs (by omega)), if_pos (pmIn_nI hs (by omega)), nI_clamp (by omega)]
theorem ti0 : (0 : Int32).toInt = 0 := rfl
theorem ti7 : (7 : Int32).toInt = 7 := rfl
theorem tim1 : (-1 : Int32).toInt = -1 := rfl
theorem nI_rng {w n : Nat} (hw : w ≤ n) (hn : n < 2 ^ 31) : 0 ≤ nI w ∧ nI w ≤ nI n := ⟨nI_pos' (by omega), nI_le hw hn⟩
theorem W_mark {σ τ : Mem} (h : RelW σ τ) (a b c : Int32) : ∃ (r : Int32) (σ1 τ1 : Mem), Ps_mark a b c σ = some (r, σ1) ∧ Mo_mark a b c τ = some (r, τ1) ∧ WStep σ τ σ1 τ1 := by
  unfold Ps_mark Mo_mark
  have bad : Ps_mark_b30 a b c σ = some (0, σ) := rfl
  rcases isOne_c a with ⟨a1, a2, -⟩ | ⟨s, hs, rfl, a1, a2, -⟩
  · exact ⟨0, σ, τ, (if_pos a1).trans bad, if_pos a2, WStep_no h⟩
  · rw [if_neg (n10 a1), if_neg (n10 a2)]
    rcases isOne_c b with ⟨b1, b2, -⟩ | ⟨w, hw, rfl, b1, b2, -⟩
    · exact ⟨0, σ, τ, (if_pos b1).trans bad, if_pos b2, WStep_no h⟩
    · rw [if_neg (n10 b1), if_neg (n10 b2)]
      have pin : pmIn (nI (4 * s + w)) 16 = true := pmIn_nI (by omega) (by omega)
      have good : Ps_mark_b26 (nI s) (nI w) c σ = some (1, mput (mput σ 1 5 (σ 1 5 + 1)) 10 (4 * s + w) c) := by
        unfold Ps_mark_b26 Ps_mark_b31
        rw [if_neg (by decide), set_mark hs hw]
        rfl
      by_cases e : c = -1
      · subst e
        rw [mo_ix, if_pos pin, nI_clamp (by omega), if_pos rfl, good]
        exact ⟨1, _, _, rfl, rfl, WStep_mark h (by omega) (by decide) (by decide)⟩
      · rw [if_neg e]
        rcases isNum_c c with ⟨c1, -, c3⟩ | ⟨v, hv, rfl, c1, -⟩
        · refine ⟨0, σ, τ, (if_pos c1).trans bad, ?_, WStep_no h⟩
          rcases c3 with c3 | c3
          · have q : c < -1 := by
              rw [Int32.lt_iff_toInt_lt, tim1]
              rw [Int32.lt_iff_toInt_lt, ti0] at c3
              have : c.toInt ≠ -1 := fun z => e (Int32.toInt_inj.mp (z.trans tim1.symm))
              omega
            exact if_pos q
          · have q : ¬ c < -1 := by
              rw [Int32.lt_iff_toInt_lt, tim1]
              rw [Int32.lt_iff_toInt_lt, ti7] at c3
              omega
            have q2 : ¬ c ≤ 7 := by
              rw [Int32.le_iff_toInt_le, ti7]
              rw [Int32.lt_iff_toInt_lt, ti7] at c3
              omega
            rw [if_neg q, if_neg q2]
        · have r0 := nI_rng (w := v) (n := 7) (by omega) (by omega)
          have q : ¬ nI v < -1 := by
            have := Int32.le_iff_toInt_le.mp r0.1
            rw [ti0] at this
            rw [Int32.lt_iff_toInt_lt, tim1]
            omega
          have q3 : (-1 : Int32) ≤ nI v := by
            have := Int32.le_iff_toInt_le.mp r0.1
            rw [ti0] at this
            rw [Int32.le_iff_toInt_le, tim1]
            omega
          have q2 : nI v ≤ 7 := r0.2
          rw [if_neg (n10 c1), if_neg q, if_pos q2, mo_ix, if_pos pin, nI_clamp (by omega), good]
          exact ⟨1, _, _, rfl, rfl, WStep_mark h (by omega) q3 q2⟩
theorem W_thing {σ τ : Mem} (h : RelW σ τ) (a b c : Int32) : ∃ (r : Int32) (σ1 τ1 : Mem), Ps_thing a b c σ = some (r, σ1) ∧ Mo_thing a b c τ = some (r, τ1) ∧ WStep σ τ σ1 τ1 := by
  unfold Ps_thing Mo_thing
  have bad : Ps_thing_b25 a b c σ = some (0, σ) := rfl
  rcases isOne_c a with ⟨a1, a2, -⟩ | ⟨s, hs, rfl, a1, a2, -⟩
  · exact ⟨0, σ, τ, (if_pos a1).trans bad, if_pos a2, WStep_no h⟩
  · rw [if_neg (n10 a1), if_neg (n10 a2)]
    rcases isNum_c b with ⟨b1, b2, -⟩ | ⟨w, hw, rfl, b1, b2⟩
    · exact ⟨0, σ, τ, (if_pos b1).trans bad, if_pos b2, WStep_no h⟩
    · rw [if_neg (n10 b1), if_neg (n10 b2)]
      rcases isOne_c c with ⟨c1, c2, -⟩ | ⟨t, ht, rfl, c1, c2, -⟩
      · exact ⟨0, σ, τ, (if_pos c1).trans bad, if_neg (fun q => q c2), WStep_no h⟩
      · have pin : pmIn (nI s) 4 = true := pmIn_nI hs (by omega)
        have c3 := n10 c2
        rw [if_neg (n10 c1), if_pos c3, if_pos pin, if_pos pin, nI_clamp (by omega)]
        have good : Ps_thing_b26 (nI s) (nI w) (nI t) 1 σ = some (1, mput (mput (mput σ 1 5 (σ 1 5 + 1)) 11 s (nI w)) 12 s (nI t)) := by
          unfold Ps_thing_b26
          rw [if_neg (by decide), set_thing hs]
          rfl
        exact ⟨1, _, _, good, rfl, WStep_thing h hs (nI_rng (n := 7) (by omega) (by omega)) (nI_rng (n := 3) (by omega) (by omega))⟩
theorem W_isIn {σ τ : Mem} (h : RelW σ τ) (a b c : Int32) : ∃ r : Int32, Ps_isIn a b c σ = some r ∧ Mo_isIn a b c τ = some r := by
  unfold Ps_isIn Mo_isIn Mo_isIn_b9
  rcases isOne_c b with ⟨b1, b2, -⟩ | ⟨w, hw, rfl, b1, b2, -⟩
  · refine ⟨0, if_pos b1, ?_⟩
    simp only [if_pos b2, ite_self]
  · rw [if_neg (n10 b1), if_neg (n10 b2)]
    rcases isOne_c c with ⟨c1, c2, -⟩ | ⟨t, ht, rfl, c1, c2, -⟩
    · refine ⟨0, if_neg (fun q => q c1), ?_⟩
      simp only [if_pos c2, ite_self]
    · rw [if_pos (n10 c1), if_neg (n10 c2)]
      have pin : pmIn (nI w) 4 = true := pmIn_nI hw (by omega)
      have g5 : Wo_groupsOf (nI w) σ = some (σ 5 w) := by
        unfold Wo_groupsOf Ne_holdersOf
        rw [if_pos pin, nI_clamp (by omega)]
        rfl
      have g9 : Wo_foldersOf (nI w) σ = some (σ 9 w) := by
        unfold Wo_foldersOf Ne_holdersOf
        rw [if_pos pin, nI_clamp (by omega)]
        rfl
      obtain ⟨a1, a2, a3, -, -⟩ := h
      have e0 : Mo_within 0 (nI w) τ = some (σ 5 w) := by
        have e := mo_within (s := 0) (w := w) (τ := τ) (by omega) hw
        rw [show nI 0 = 0 from rfl] at e
        rw [e, a2 w hw]
        congr 1
        have x1 := (a1 0 (by omega) w hw).1
        rw [show (4 * 0 + w) = w by omega] at x1
        rw [show (4 * 0 + w) = w by omega, x1]
        obtain ⟨m, hm, em⟩ := (a1 0 (by omega) w hw).2
        have hr : ∀ g, g < 4 → (σ 4) g = nI ((fun g => (σ 4 g).toNatClampNeg) g) ∧ (fun g => (σ 4 g).toNatClampNeg) g < 16 := fun g hg => b4_n (a1 1 (by omega) g hg).2
        have hr2 : ∀ g, g < 4 → (fun q => τ 1 ((if 2 ≤ 0 then 12 else 4) + q)) g = nI ((fun g => (σ 4 g).toNatClampNeg) g) ∧ (fun g => (σ 4 g).toNatClampNeg) g < 16 := fun g hg => ⟨((a1 1 (by omega) g hg).1).trans (hr g hg).1, (hr g hg).2⟩
        rw [show σ (rowC 0) w = nI m from em, show σ 3 w = nI m from em, upA_n hr2 hm, upA_n hr hm]
      have e2 : Mo_within 2 (nI w) τ = some (σ 9 w) := by
        have e := mo_within (s := 2) (w := w) (τ := τ) (by omega) hw
        rw [show nI 2 = 2 from rfl] at e
        rw [e, a3 w hw]
        congr 1
        have x1 := (a1 2 (by omega) w hw).1
        rw [x1]
        obtain ⟨m, hm, em⟩ := (a1 2 (by omega) w hw).2
        have hr : ∀ g, g < 4 → (σ 8) g = nI ((fun g => (σ 8 g).toNatClampNeg) g) ∧ (fun g => (σ 8 g).toNatClampNeg) g < 16 := fun g hg => b4_n (a1 3 (by omega) g hg).2
        have hr2 : ∀ g, g < 4 → (fun q => τ 1 ((if 2 ≤ 2 then 12 else 4) + q)) g = nI ((fun g => (σ 8 g).toNatClampNeg) g) ∧ (fun g => (σ 8 g).toNatClampNeg) g < 16 := fun g hg => ⟨((a1 3 (by omega) g hg).1).trans (hr g hg).1, (hr g hg).2⟩
        rw [show σ (rowC 2) w = nI m from em, show σ 7 w = nI m from em, upA_n hr2 hm, upA_n hr hm]
      by_cases ha : a = 0
      · subst ha
        rw [if_neg (fun q => q rfl), if_pos rfl, g5, e0]
        rcases hasBit_01 (σ 5 w) (nI t) with ⟨q1, q2⟩ | ⟨q1, q2⟩
        · refine ⟨0, ?_, ?_⟩
          · show (if (Ps_hasBit (σ 5 w) (nI t) == 0 || Ps_hasBit (σ 5 w) (nI t) == 1) = true then some (Ps_hasBit (σ 5 w) (nI t)) else none) = some 0
            rw [q1]
            rfl
          · exact if_pos q2
        · refine ⟨1, ?_, ?_⟩
          · show (if (Ps_hasBit (σ 5 w) (nI t) == 0 || Ps_hasBit (σ 5 w) (nI t) == 1) = true then some (Ps_hasBit (σ 5 w) (nI t)) else none) = some 1
            rw [q1]
            rfl
          · exact if_neg (fun q => q q2)
      · rw [if_pos ha, if_neg ha]
        by_cases hb : a = 2
        · subst hb
          rw [if_neg (fun q => q rfl), if_neg (fun q => q rfl), g9, e2]
          rcases hasBit_01 (σ 9 w) (nI t) with ⟨q1, q2⟩ | ⟨q1, q2⟩
          · exact ⟨0, if_pos q1, if_pos q2⟩
          · exact ⟨1, if_neg (n10 q1), if_neg (fun q => q q2)⟩
        · rw [if_pos hb, if_pos hb]
          exact ⟨0, rfl, rfl⟩
