section
variable {σ τ σf τf : Mem} {n s c : Nat}
/-- a policy in its place is not touched by a reading into the spare room -/
theorem RelP_rd {M s' i c' : Nat} (hs : s < 2) (hs' : s' < 2) (hR : RelRm σ s) (hR' : RelRm σ s') (hc : c ≤ 8) (hi : i < 9) (hne : ¬ (s = s' ∧ c = i)) (fx : FX (ix (σ (setC s + 1) c)) σ σf) (fm : FM τ τf) (h : RelP σ τ M (ix (σ (setC s' + 1) i)) (8 * s' + i)) (hq : 8 * s' + i < 16) : RelP σf τf M (ix (σ (setC s' + 1) i)) (8 * s' + i) := by
  have p1 := (hR.1 c (by omega)).1
  have p2 := (hR'.1 i hi).1
  have b1 := po_ne p1
  have b2 := po_ne p2
  have d : ix (σ (setC s + 1) c) ≠ ix (σ (setC s' + 1) i) := fun e => hne (set_eq hs hs' (by omega) hi hR hR' e)
  have dj := po_dj p1 p2 d
  exact RelP_eq (RelP_cg h (fun k a b => fx.1 k (by omega) (by omega) (by omega) (by omega)) (fun k a b => fx.1 k (by omega) (by omega) (by omega) (by omega)) (fun _ _ _ => rfl)) (fm.2.2 _ hq)
theorem Rel_rd (h : Rel σ τ n) (hs : s < 2) (hc : σ (setC s) 1 = nI c) (hc8 : c ≤ 8) (fx : FX (ix (σ (setC s + 1) c)) σ σf) (fm : FM τ τf) : Rel σf τf (n + 1) := by
  obtain ⟨h1, h2, M, h3, h4, h5⟩ := h
  obtain ⟨hR, -⟩ := h5 s hs
  have pin := (hR.1 c (by omega)).2
  have p1 := (hR.1 c (by omega)).1
  have b1 := po_ne p1
  unfold polIn at pin
  refine ⟨RelW_cg h1 (fun k a b => fx.1 k (by omega) (by omega) (by omega) (by omega)) (fun k a b => fm.1 k (by omega) (by omega)), RelT_cg h2 fx.2 (fx.1 16 (by omega) (by omega) (by omega) (by omega)) fm.2.1 (fm.1 5 (by omega) (by omega)), M, by omega, by rw [fx.1 1 (by omega) (by omega) (by omega) (by omega)]; exact h4, fun s' hs' => ?_⟩
  obtain ⟨hR', c', hc', f1, f2, hP'⟩ := h5 s' hs'
  have sv := setC_v hs'
  have r1 : σf (setC s' + 1) = σ (setC s' + 1) := fx.1 _ (by omega) (by omega) (by omega) (by omega)
  refine ⟨?_, c', hc', by rw [fx.1 (setC s') (by omega) (by omega) (by omega) (by omega)]; exact f1, by rw [fm.1 6 (by omega) (by omega)]; exact f2, fun i hi => ?_⟩
  · unfold RelRm
    rw [r1]
    exact hR'
  · rw [r1]
    refine RelP_rd (c' := c') hs hs' hR hR' hc8 (by omega) (fun z => ?_) fx fm (hP' i hi) (by omega)
    obtain ⟨rfl, rfl⟩ := z
    have := (nI_eq (by omega) (by omega)).mp (hc.symm.trans f1)
    omega
theorem S_add : Stp_add Rel := fun σ τ n h hn a => by
  have h0 := h
  obtain ⟨h1, h2, M, h3, h4, h5⟩ := h
  unfold Ps_add
  rcases isSet_c a with ⟨a1, a2⟩ | ⟨s, hs, rfl, a1, a2⟩
  · rw [if_neg (fun z => z a1)]
    refine ⟨-2, σ, τ, rfl, ?_, Rel_up σ τ n h0⟩
    unfold Mo_add
    by_cases hlt : a < 0
    · rw [if_pos hlt]
    · obtain ⟨w, hw, rfl⟩ := nI_of hlt
      rw [if_neg hlt]
      rcases (show w = 0 ∨ w = 1 ∨ 1 < w by omega) with rfl | rfl | h
      · exact absurd a1 (by decide)
      · exact absurd a1 (by decide)
      · rw [if_neg (show ¬ nI w ≤ 1 from nI_ge (a := 1) h hw)]
  · obtain ⟨hR, c, hc, e1, e2, hP⟩ := h5 s hs
    have sv := setC_v hs
    have pc := hR.1 c (by omega)
    have hp := pc.1
    have hpin := pc.2
    have hb := po_ne hp
    unfold polIn at hpin
    obtain ⟨r, σf, τf, u1, u2, fx, fm, u3, u4⟩ := T_read (σ := σ) (τ := τ) (p := ix (σ (setC s + 1) c)) (s := s) h2 hp hs
    have hsp : Se_spare (setC s) σ = some (ix (σ (setC s + 1) c)) := by
      unfold Se_spare
      rw [e1, if_pos (pmIn_nI (by omega) (by omega)), nI_clamp (by omega), if_pos hp]
    have f6 : σf (setC s) 1 = nI c := by rw [fx.1 (setC s) (by omega) (by omega) (by omega) (by omega)]; exact e1
    have t6 : τf 6 s = nI c := by rw [fm.1 6 (by omega) (by omega)]; exact e2
    have p2 : pmIn (nI s) 2 = true := pmIn_nI hs (by omega)
    have hrel := Rel_rd h0 hs e1 hc fx fm
    rw [if_pos (n10 a1), chosen_v hs, Option.bind_some, hsp, Option.bind_some, u1, Option.bind_some, u2]
    unfold Mo_add_b137
    rw [u3]
    by_cases hr : r = 0
    · subst hr
      show ∃ r σ1 τ1, (if (0 : Int32) = 0 then (Se_count (setC s) σf).bind fun q35 => if ¬ q35 = 8 then (Se_keepSpare (setC s) σf).bind fun q49 => some (q49.1, q49.2) else some (-3, σf) else some (0, σf)) = some (r, σ1) ∧ _
      rw [if_pos rfl, if_pos rfl, show Se_count (setC s) σf = some (σf (setC s) 1) from rfl, Option.bind_some, f6, if_pos p2, nI_clamp (by omega), t6]
      by_cases h8 : c = 8
      · subst h8
        rw [if_neg (fun z => z rfl), if_neg (fun z => z rfl)]
        exact ⟨-3, σf, τf, rfl, rfl, hrel⟩
      · have n8 : ¬ nI c = 8 := fun z => h8 ((nI_eq (b := 8) (by omega) (by omega)).mp z)
        obtain ⟨cs, g1, g2, g3, g4, g5, g6⟩ := u4 rfl
        have e8 : (8 : Int32) * nI s + nI c = nI (8 * s + c) := by rw [show (8 : Int32) = nI 8 from rfl, pk_mul, nI_add]
        obtain ⟨τ2, v1, v2, v3, v4⟩ := M_copy (τ := τf) (a := 16) (b := 8 * s + c) (by omega) (by omega) (by omega) (by rw [g5.2.2.1.1]; exact g5.2.2.1.2) (by rw [g5.2.2.2.1.1]; exact g5.2.2.2.1.2)
        rw [if_pos n8, if_pos n8, if_pos p2, e8, show Mo_copy 16 (nI (8 * s + c)) τf = some τ2 from v1, Option.bind_some, if_pos p2, if_pos p2, if_pos p2, v2 6 (by omega), t6, nI_1, mput_eq, nI_pred]
        unfold Se_keepSpare
        rw [f6, nI_1, mput_eq, nI_pred, Option.bind_some]
        refine ⟨nI c, mput σf (setC s) 1 (nI (c + 1)), mput τ2 6 s (nI (c + 1)), rfl, rfl, ?_⟩
        obtain ⟨k1, k2, M', k3, k4, k5⟩ := hrel
        have k1' : σf 1 5 = nI M := by rw [fx.1 1 (by omega) (by omega) (by omega) (by omega)]; exact h4
        have x1 : ∀ k, k ≠ setC s → mput σf (setC s) 1 (nI (c + 1)) k = σf k := fun k hk => mrow_ne hk
        have y1 : ∀ k, k < 6 ∨ 13 < k → mput τ2 6 s (nI (c + 1)) k = τf k := fun k hk => by rw [mrow_ne (by omega)]; exact v2 k (by omega)
        have yq : ∀ q b, EqP τ2 q τf b → EqP (mput τ2 6 s (nI (c + 1))) q τf b := fun q b hh => by
          unfold EqP at hh ⊢
          rw [mrow_ne (by omega), mrow_ne (by omega), mrow_ne (by omega), mrow_ne (by omega), mrow_ne (by omega), mrow_ne (by omega), mrow_ne (by omega)]
          exact hh
        have wx : WldX σf (mput σf (setC s) 1 (nI (c + 1))) := fun k a b => x1 k (by omega)
        have hnew : RelP σf τf M' (ix (σ (setC s + 1) c)) 16 := ⟨cs, g1, g2, g3, g4, g5, Or.inl g6, fun z => by
          rw [g6] at z
          have := nI_pos (n := M') (by omega)
          rw [← z] at this
          exact absurd (by decide) this⟩
        refine ⟨RelW_cg k1 wx (fun k a b => y1 k (by omega)), RelT_cg k2 (by rw [x1 15 (by omega)]) (x1 16 (by omega)) (by rw [y1 0 (by omega)]) (y1 5 (by omega)), M', k3, by rw [x1 1 (by omega)]; exact k4, fun s' hs' => ?_⟩
        obtain ⟨hR', c', hc', f1, f2, hP'⟩ := k5 s' hs'
        have sv' := setC_v hs'
        have r1 : mput σf (setC s) 1 (nI (c + 1)) (setC s' + 1) = σf (setC s' + 1) := x1 _ (by omega)
        have pcg : ∀ (i q b : Nat), i < 9 → EqP τ2 q τf b → RelP σf τf M' (ix (σf (setC s' + 1) i)) b → RelP (mput σf (setC s) 1 (nI (c + 1))) (mput τ2 6 s (nI (c + 1))) M' (ix (σf (setC s' + 1) i)) q := fun i q b hi hq hh => by
          have z := po_val (hR'.1 i hi).1
          exact RelP_eq (RelP_cg hh (fun k a b => x1 k (by omega)) wx (fun _ _ _ => rfl)) (yq q b hq)
        by_cases hss : s' = s
        · subst hss
          have ecc : c' = c := (nI_eq (by omega) (by omega)).mp (f1.symm.trans f6)
          subst ecc
          refine ⟨?_, c' + 1, by omega, mput_eq, mput_eq, fun i hi => ?_⟩
          · unfold RelRm
            rw [r1]
            exact hR'
          · rw [r1]
            rcases (show i = c' ∨ i < c' by omega) with rfl | hi2
            · refine pcg i _ 16 (by omega) v3 ?_
              rw [show σf (setC s' + 1) = σ (setC s' + 1) from fx.1 _ (by omega) (by omega) (by omega) (by omega)]
              exact hnew
            · exact pcg i _ (8 * s' + i) (by omega) (v4 _ (by omega) (by omega)) (hP' i hi2)
        · refine ⟨?_, c', hc', by rw [x1 (setC s') (by omega)]; exact f1, by rw [mput_ne (by omega), v2 6 (by omega)]; exact f2, fun i hi => ?_⟩
          · unfold RelRm
            rw [r1]
            exact hR'
          · rw [r1]
            exact pcg i _ (8 * s' + i) (by omega) (v4 _ (by omega) (by omega)) (hP' i hi)
    · show ∃ r1 σ1 τ1, (if r = 0 then _ else some (r, σf)) = some (r1, σ1) ∧ _
      rw [if_neg hr, if_neg hr]
      exact ⟨r, σf, τf, rfl, rfl, hrel⟩
end
