theorem b4_n {x : Int32} (h : b4 x) : x = nI x.toNatClampNeg ∧ x.toNatClampNeg < 16 := by
  obtain ⟨m, hm, rfl⟩ := h
  rw [nI_clamp (by omega)]
  exact ⟨rfl, hm⟩
theorem b4_or {x : Int32} {t : Nat} (h : b4 x) (ht : t < 4) : b4 (x ||| (1 <<< (nI t &&& 31))) := by
  obtain ⟨m, hm, rfl⟩ := h
  have l1 := (n_one t ht 0 (by omega)).1
  exact ⟨m ||| (1 <<< t), n_or16 _ hm _ l1, by rw [f1 ht, fO hm l1]⟩
theorem b4_no {x : Int32} {t : Nat} (h : b4 x) (ht : t < 4) : b4 (x &&& ((1 <<< (nI t &&& 31)) ^^^ (-1))) := by
  obtain ⟨m, hm, rfl⟩ := h
  exact ⟨m &&& (15 ^^^ (1 <<< t)), Nat.lt_of_le_of_lt Nat.and_le_left hm, fN hm ht⟩
theorem ne_b35 {v0 w s0 : Nat} {t : Int32} {σ : Mem} (hw : w < 4) : Ne_link_b35 v0 (nI w) t s0 σ = some ((1 : Int32), rch v0 (mput σ s0 w (σ s0 w ||| (1 <<< (t &&& 31))))) := by
  unfold Ne_link_b35
  rw [if_pos (pmIn_nI hw (by omega)), if_pos (pmIn_nI hw (by omega)), nI_clamp (by omega), ne_reach]
  rfl
theorem ne_b15 {v0 w s0 : Nat} {t : Int32} {σ : Mem} (hw : w < 4) : Ne_unlink_b15 v0 (nI w) t s0 σ = some (Ps_hasBit (σ s0 w) t, rch v0 (mput σ s0 w (σ s0 w &&& ((1 <<< (t &&& 31)) ^^^ (-1))))) := by
  unfold Ne_unlink_b15
  rw [if_pos (pmIn_nI hw (by omega)), if_pos (pmIn_nI hw (by omega)), if_pos (pmIn_nI hw (by omega)), nI_clamp (by omega), ne_reach]
  show (if (Ps_hasBit (σ s0 w) t == 0 || Ps_hasBit (σ s0 w) t == 1) = true then _ else none) = _
  rw [if_pos]
  unfold Ps_hasBit
  split <;> rfl
/-- a change of the world, or none -/
def WStep (σ τ σ1 τ1 : Mem) : Prop := RelW σ1 τ1 ∧ FrX σ σ1 ∧ FrM τ τ1 ∧ ((σ1 = σ ∧ τ1 = τ) ∨ σ1 1 5 = σ 1 5 + 1)
theorem WStep_no {σ τ : Mem} (h : RelW σ τ) : WStep σ τ σ τ := ⟨h, ⟨fun _ _ => rfl, fun _ _ => rfl, rfl, rfl, rfl⟩, ⟨fun _ _ => rfl, rfl⟩, Or.inl ⟨rfl, rfl⟩⟩
theorem WStep_row {σ τ : Mem} {s w : Nat} {y : Int32} (h : RelW σ τ) (hs : s < 4) (hw : w < 4) (hy : b4 y) : WStep σ τ (rch (nb s) (mput (mput σ 1 5 (σ 1 5 + 1)) (rowC s) w y)) (mput τ 1 (4 * s + w) y) := by
  have r0 := rowC_v s hs
  have n0 : nb s = 2 ∨ nb s = 6 := by unfold nb; split <;> omega
  refine ⟨RelW_row h (fun c h1 h2 => mrow_ne (by omega)) hs hw hy, ⟨fun c hc => ?_, fun k hk => ?_, ?_, ?_, ?_⟩, ⟨fun c hc => mrow_ne (by omega), mrow_ne (by omega)⟩, Or.inr ?_⟩
  · rw [rch_ne (by omega), mrow_ne (by omega), mrow_ne (by omega)]
  · rw [rch_ne (by omega), mrow_ne (by omega), mput_ne (by omega)]
  · rw [rch_ne (by omega), mrow_ne (by omega), mrow_ne (by omega)]
  · rw [rch_ne (by omega), mrow_ne (by omega), mrow_ne (by omega)]
  · rw [rch_ne (by omega), mrow_ne (by omega), mrow_ne (by omega)]
  · rw [rch_ne (by omega), mrow_ne (by omega), mput_eq]
theorem WStep_tick {σ τ : Mem} (h : RelW σ τ) : WStep σ τ (mput σ 1 5 (σ 1 5 + 1)) τ := by
  have rng : ∀ c, c ≠ 1 → mput σ 1 5 (σ 1 5 + 1) c = σ c := fun c hc => mrow_ne hc
  obtain ⟨a1, a2, a3, a4, a5⟩ := h
  refine ⟨⟨fun s2 hs2 g hg => ?_, fun g hg => ?_, fun g hg => ?_, fun k hk => ?_, fun g hg => ?_⟩, ⟨fun c hc => rng c (by omega), fun k hk => mput_ne (by omega), rng 0 (by omega), rng 2 (by omega), rng 6 (by omega)⟩, ⟨fun _ _ => rfl, rfl⟩, Or.inr mput_eq⟩
  · have r2 := rowC_v s2 hs2
    rw [rng _ (by omega)]
    exact a1 s2 hs2 g hg
  · rw [rng 5 (by omega), rng 4 (by omega), rng 3 (by omega)]
    exact a2 g hg
  · rw [rng 9 (by omega), rng 8 (by omega), rng 7 (by omega)]
    exact a3 g hg
  · rw [rng 10 (by omega)]
    exact a4 k hk
  · rw [rng 11 (by omega), rng 12 (by omega)]
    exact a5 g hg
theorem nest_v {s : Nat} {σ : Mem} (hs : s < 4) : Wo_nestOf (nI s) σ = some (nb s) ∧ Wo_movesHolder (nI s) = (if s % 2 = 1 then 1 else 0) := by
  rcases (show s = 0 ∨ s = 1 ∨ s = 2 ∨ s = 3 by omega) with rfl | rfl | rfl | rfl <;> exact ⟨rfl, by decide⟩
theorem row_v {s : Nat} (hs : s < 4) : rowC s = nb s + (if s % 2 = 1 then 2 else 1) := by
  rcases (show s = 0 ∨ s = 1 ∨ s = 2 ∨ s = 3 by omega) with rfl | rfl | rfl | rfl <;> rfl
theorem wo_link {s w t : Nat} {σ : Mem} (hs : s < 4) (hw : w < 4) : Wo_link (nI s) (nI w) (nI t) σ = if s % 2 = 1 ∧ ¬ Ps_hasBit (upA (σ (rowC s)) (1 <<< (nI t &&& 31))) (nI w) = 0 then some ((0 : Int32), mput σ 1 5 (σ 1 5 + 1)) else some ((1 : Int32), rch (nb s) (mput (mput σ 1 5 (σ 1 5 + 1)) (rowC s) w (σ (rowC s) w ||| (1 <<< (nI t &&& 31))))) := by
  have r0 := rowC_v s hs
  have n0 : nb s = 2 ∨ nb s = 6 := by unfold nb; split <;> omega
  unfold Wo_link
  rw [(nest_v hs).1, (nest_v (σ := σ) hs).2]
  show ((Ne_link (nb s) _ (nI w) (nI t) _).bind fun q21 => if (q21.1 == 0 || q21.1 == 1) = true then some (q21.1, q21.2) else none) = _
  have e1 : ∀ c, c ≠ 1 → mput σ 1 5 (σ 1 5 + 1) c = σ c := fun c hc => mrow_ne hc
  by_cases h : s % 2 = 1
  · have rv := row_v hs
    rw [if_pos h] at rv ⊢
    unfold Ne_link
    rw [if_neg (by decide), ne_up, e1 _ (by omega), ← rv]
    show ((if Ps_hasBit (upA (σ (rowC s)) (1 <<< (nI t &&& 31))) (nI w) = 0 then _ else _) : Option (Int32 × Mem)).bind _ = _
    by_cases hb : Ps_hasBit (upA (σ (rowC s)) (1 <<< (nI t &&& 31))) (nI w) = 0
    · rw [if_pos hb, if_neg (fun q => q.2 hb)]
      unfold Ne_link_b20
      rw [if_neg (by decide), ne_b35 hw, ← rv, e1 _ (by omega)]
      rfl
    · rw [if_neg hb, if_pos ⟨h, hb⟩]
      rfl
  · have rv := row_v hs
    rw [if_neg h] at rv ⊢
    rw [if_neg (fun q => h q.1)]
    unfold Ne_link
    rw [if_pos rfl]
    unfold Ne_link_b20
    rw [if_pos rfl, ne_b35 hw, ← rv, e1 _ (by omega)]
    rfl
theorem wo_unlink {s w t : Nat} {σ : Mem} (hs : s < 4) (hw : w < 4) : Wo_unlink (nI s) (nI w) (nI t) σ = some (Ps_hasBit (σ (rowC s) w) (nI t), rch (nb s) (mput (mput σ 1 5 (σ 1 5 + 1)) (rowC s) w (σ (rowC s) w &&& ((1 <<< (nI t &&& 31)) ^^^ (-1))))) := by
  have r0 := rowC_v s hs
  unfold Wo_unlink
  rw [(nest_v hs).1, (nest_v (σ := σ) hs).2]
  show ((Ne_unlink (nb s) _ (nI w) (nI t) _).bind fun q21 => if (q21.1 == 0 || q21.1 == 1) = true then some (q21.1, q21.2) else none) = _
  have e1 : ∀ c, c ≠ 1 → mput σ 1 5 (σ 1 5 + 1) c = σ c := fun c hc => mrow_ne hc
  have rv := row_v hs
  have fin : ∀ m : Mem, ((some (Ps_hasBit (σ (rowC s) w) (nI t), m)).bind fun q21 : Int32 × Mem => if (q21.1 == 0 || q21.1 == 1) = true then some (q21.1, q21.2) else none) = some (Ps_hasBit (σ (rowC s) w) (nI t), m) := fun m => by
    show (if (Ps_hasBit (σ (rowC s) w) (nI t) == 0 || Ps_hasBit (σ (rowC s) w) (nI t) == 1) = true then _ else none) = _
    rw [if_pos]
    unfold Ps_hasBit
    split <;> rfl
  unfold Ne_unlink
  by_cases h : s % 2 = 1
  · rw [if_pos h] at rv ⊢
    rw [if_neg (by decide), ne_b15 hw, ← rv, e1 _ (by omega), fin]
  · rw [if_neg h] at rv ⊢
    rw [if_pos rfl, ne_b15 hw, ← rv, e1 _ (by omega), fin]
theorem mo_ix {s w : Nat} : (4 : Int32) * nI s + nI w = nI (4 * s + w) := by
  rw [show (4 : Int32) = nI 4 from rfl, pk_mul, nI_add]
theorem mo_rem {s : Nat} (hs : s < 4) : (nI s - nI s / 2 * 2 = 1) ↔ s % 2 = 1 := by
  rcases (show s = 0 ∨ s = 1 ∨ s = 2 ∨ s = 3 by omega) with rfl | rfl | rfl | rfl <;> decide
theorem mo_b52 {s w : Nat} {t : Int32} {τ : Mem} (hs : s < 4) (hw : w < 4) : Mo_join_b52 (nI s) (nI w) t τ = some ((1 : Int32), mput τ 1 (4 * s + w) (τ 1 (4 * s + w) ||| (1 <<< (t &&& 31)))) := by
  unfold Mo_join_b52
  rw [mo_ix, if_pos (pmIn_nI (by omega) (by omega)), if_pos (pmIn_nI (by omega) (by omega)), nI_clamp (by omega)]
theorem ring_eq {σ τ : Mem} (h : RelW σ τ) {s w t : Nat} (hs : s < 4) (ho : s % 2 = 1) (hw : w < 4) (ht : t < 4) : (¬ Ps_hasBit (upA (σ (rowC s)) (1 <<< (nI t &&& 31))) (nI w) = 0) ↔ (w = t ∨ (upA (fun q => τ 1 ((if 2 ≤ s then 12 else 4) + q)) (τ 1 (4 * s + t)) >>> (nI w &&& 31)) &&& 1 = 1) := by
  have hr : ∀ g, g < 4 → (σ (rowC s)) g = nI ((σ (rowC s) g).toNatClampNeg) ∧ (σ (rowC s) g).toNatClampNeg < 16 := fun g hg => b4_n (h.1 s hs g hg).2
  have h16 : ∀ g, g < 4 → (fun g => (σ (rowC s) g).toNatClampNeg) g < 16 := fun g hg => (hr g hg).2
  have l1 := (n_one t ht 0 (by omega)).1
  have e4 : (if 2 ≤ s then 12 else 4) = 4 * s := by split <;> omega
  have hr2 : ∀ g, g < 4 → (fun q => τ 1 ((if 2 ≤ s then 12 else 4) + q)) g = nI ((fun g => (σ (rowC s) g).toNatClampNeg) g) ∧ (fun g => (σ (rowC s) g).toNatClampNeg) g < 16 := fun g hg => by
    refine ⟨?_, h16 g hg⟩
    show τ 1 ((if 2 ≤ s then 12 else 4) + g) = _
    rw [e4, (h.1 s hs g hg).1]
    exact (hr g hg).1
  have e5 : τ 1 (4 * s + t) = nI ((fun g => (σ (rowC s) g).toNatClampNeg) t) := (h.1 s hs t ht).1.trans (hr t ht).1
  rw [hasBit_0, Classical.not_not, f1 ht, upA_n (r := fun g => (σ (rowC s) g).toNatClampNeg) hr l1, fB (uA_lt h16 l1) hw, uA_ring h16 hw ht, e5, upA_n hr2 (h16 t ht), fB (uA_lt h16 (h16 t ht)) hw]
theorem n10 {x : Int32} (h : x = 1) : ¬ x = 0 := by
  rw [h]
  decide
theorem W_join {σ τ : Mem} (h : RelW σ τ) (a b c : Int32) : ∃ (r : Int32) (σ1 τ1 : Mem), Ps_join a b c σ = some (r, σ1) ∧ Mo_join a b c τ = some (r, τ1) ∧ WStep σ τ σ1 τ1 := by
  unfold Ps_join Mo_join
  rcases isOne_c a with ⟨-, a2, a3⟩ | ⟨s, hs, rfl, -, a2, a3⟩
  · exact ⟨0, σ, τ, if_pos a3, if_pos a2, WStep_no h⟩
  · rw [if_neg (n10 a3), if_neg (n10 a2)]
    rcases isOne_c b with ⟨b1, b2, -⟩ | ⟨w, hw, rfl, b1, b2, -⟩
    · exact ⟨0, σ, τ, if_pos b1, if_pos b2, WStep_no h⟩
    · rw [if_neg (n10 b1), if_neg (n10 b2)]
      rcases isOne_c c with ⟨c1, c2, -⟩ | ⟨t, ht, rfl, c1, c2, -⟩
      · exact ⟨0, σ, τ, if_pos c1, if_pos c2, WStep_no h⟩
      · rw [if_neg (n10 c1), if_neg (n10 c2), wo_link hs hw]
        have hx := (h.1 s hs w hw)
        have key := WStep_row (y := σ (rowC s) w ||| (1 <<< (nI t &&& 31))) h hs hw (b4_or hx.2 ht)
        by_cases ho : s % 2 = 1
        · have rm : ¬ ¬ nI s - nI s / 2 * 2 = 1 := fun q => q ((mo_rem hs).mpr ho)
          rw [if_neg rm]
          have rg := ring_eq h hs ho hw ht
          by_cases hb : ¬ Ps_hasBit (upA (σ (rowC s)) (1 <<< (nI t &&& 31))) (nI w) = 0
          · have hc : s % 2 = 1 ∧ ¬ Ps_hasBit (upA (σ (rowC s)) (1 <<< (nI t &&& 31))) (nI w) = 0 := ⟨ho, hb⟩
            rw [if_pos hc]
            refine ⟨0, _, τ, rfl, ?_, WStep_tick h⟩
            by_cases e : nI w = nI t
            · rw [if_pos e]
            · rw [if_neg e, mo_within hs ht]
              have h2 := (rg.mp hb).resolve_left (fun q => e (by rw [q]))
              exact if_neg (fun q => q h2)
          · have hc : ¬ (s % 2 = 1 ∧ ¬ Ps_hasBit (upA (σ (rowC s)) (1 <<< (nI t &&& 31))) (nI w) = 0) := fun q => hb q.2
            rw [if_neg hc]
            have e : ¬ nI w = nI t := fun q => hb (rg.mpr (Or.inl ((nI_eq (by omega) (by omega)).mp q)))
            refine ⟨1, _, _, rfl, ?_, key⟩
            rw [if_neg e, mo_within hs ht]
            refine (if_pos (fun q => hb (rg.mpr (Or.inr q)))).trans ?_
            rw [mo_b52 hs hw, hx.1]
        · have rm : ¬ nI s - nI s / 2 * 2 = 1 := fun q => ho ((mo_rem hs).mp q)
          have hc : ¬ (s % 2 = 1 ∧ ¬ Ps_hasBit (upA (σ (rowC s)) (1 <<< (nI t &&& 31))) (nI w) = 0) := fun q => ho q.1
          rw [if_pos rm, if_neg hc]
          refine ⟨1, _, _, rfl, ?_, key⟩
          rw [mo_b52 hs hw, hx.1]
theorem hasBit_01 (x y : Int32) : (Ps_hasBit x y = 0 ∧ ¬ (x >>> (y &&& 31)) &&& 1 = 1) ∨ (Ps_hasBit x y = 1 ∧ (x >>> (y &&& 31)) &&& 1 = 1) := by
  unfold Ps_hasBit
  by_cases h : (x >>> (y &&& 31)) &&& 1 = 1
  · exact Or.inr ⟨if_neg (fun q => q h), h⟩
  · exact Or.inl ⟨if_pos h, h⟩
theorem bit_01b : (List.range 16).all (fun m => (List.range 4).all (fun g => decide ((nI m >>> (nI g &&& 31)) &&& 1 = 0) == !(m.testBit g))) = true := by decide +kernel
theorem bit_01 {m g : Nat} (hm : m < 16) (hg : g < 4) : (nI m >>> (nI g &&& 31)) &&& 1 = 0 ↔ ¬ m.testBit g = true := by
  have := all2 bit_01b hm hg
  rw [beq_iff_eq] at this
  rw [← decide_eq_true_eq (p := (nI m >>> (nI g &&& 31)) &&& 1 = 0), this]
  simp
theorem clr_b : (List.range 16).all (fun m => (List.range 4).all (fun g => m.testBit g || Nat.beq (m &&& (15 ^^^ (1 <<< g))) m)) = true := by decide +kernel
theorem W_leave {σ τ : Mem} (h : RelW σ τ) (a b c : Int32) : ∃ (r : Int32) (σ1 τ1 : Mem), Ps_leave a b c σ = some (r, σ1) ∧ Mo_leave a b c τ = some (r, τ1) ∧ WStep σ τ σ1 τ1 := by
  unfold Ps_leave Mo_leave
  rcases isOne_c a with ⟨-, a2, a3⟩ | ⟨s, hs, rfl, -, a2, a3⟩
  · exact ⟨0, σ, τ, if_pos a3, if_pos a2, WStep_no h⟩
  · rw [if_neg (n10 a3), if_neg (n10 a2)]
    rcases isOne_c b with ⟨b1, b2, -⟩ | ⟨w, hw, rfl, b1, b2, -⟩
    · exact ⟨0, σ, τ, if_pos b1, if_pos b2, WStep_no h⟩
    · rw [if_neg (n10 b1), if_neg (n10 b2)]
      rcases isOne_c c with ⟨c1, c2, -⟩ | ⟨t, ht, rfl, c1, c2, -⟩
      · exact ⟨0, σ, τ, if_pos c1, if_pos c2, WStep_no h⟩
      · have pin : pmIn (nI (4 * s + w)) 16 = true := pmIn_nI (by omega) (by omega)
        rw [if_neg (n10 c1), if_neg (n10 c2), wo_unlink hs hw, mo_ix, if_pos pin, if_pos pin, if_pos pin, nI_clamp (by omega)]
        have hx := (h.1 s hs w hw)
        have key := WStep_row (y := σ (rowC s) w &&& ((1 <<< (nI t &&& 31)) ^^^ (-1))) h hs hw (b4_no hx.2 ht)
        obtain ⟨m, hm, em⟩ := hx.2
        rw [hx.1]
        rcases hasBit_01 (σ (rowC s) w) (nI t) with ⟨q1, q2⟩ | ⟨q1, q2⟩
        · rw [q1]
          have nb1 : ¬ m.testBit t = true := fun z => q2 (by rw [em]; exact (fB hm ht).mpr z)
          have z0 : ¬ ¬ (σ (rowC s) w >>> (nI t &&& 31)) &&& 1 = 0 := fun z => z (by rw [em]; exact (bit_01 hm ht).mpr nb1)
          have same : σ (rowC s) w &&& ((1 <<< (nI t &&& 31)) ^^^ (-1)) = τ 1 (4 * s + w) := by
            rw [hx.1, em, fN hm ht]
            have := all2 clr_b hm ht
            rw [Bool.or_eq_true] at this
            rw [Nat.eq_of_beq_eq_true (this.resolve_left nb1)]
          rw [same, mput_same] at key
          rw [← same] at key
          exact ⟨0, _, τ, rfl, if_neg z0, key⟩
        · rw [q1]
          have nb1 : m.testBit t = true := (fB hm ht).mp (by rw [← em]; exact q2)
          have z0 : ¬ (σ (rowC s) w >>> (nI t &&& 31)) &&& 1 = 0 := fun z => (bit_01 hm ht).mp (by rw [← em]; exact z) nb1
          exact ⟨1, _, _, rfl, if_pos z0, key⟩
