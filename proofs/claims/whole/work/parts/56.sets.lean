theorem po_val {p : Nat} (h : isPo p) : (19 ≤ p ∧ p < 64 ∧ (p - 19) % 5 = 0) ∨ (66 ≤ p ∧ p < 111 ∧ (p - 66) % 5 = 0) := by
  have h2 : isPoB p = true := h
  unfold isPoB at h2
  simp only [Bool.or_eq_true, Bool.and_eq_true, Nat.ble_eq, Nat.blt_eq, beq_iff_eq] at h2
  rcases h2 with ⟨⟨a, b⟩, c⟩ | ⟨⟨a, b⟩, c⟩
  · exact Or.inl ⟨a, b, c⟩
  · exact Or.inr ⟨a, b, c⟩
theorem po_dj {p q : Nat} (h1 : isPo p) (h2 : isPo q) (h : p ≠ q) : p + 5 ≤ q ∨ q + 5 ≤ p := by
  have a := po_val h1
  have b := po_val h2
  omega
/-- surveys alone have been made -/
def FSv (σ σ1 : Mem) : Prop := (∀ c, (c < 13 ∨ (15 ≤ c ∧ c ≤ 18) ∨ c = 64 ∨ c = 65 ∨ 111 ≤ c) → σ1 c = σ c) ∧ ∀ p, isPo p → (∀ k, k ≠ 12 → σ1 p k = σ p k) ∧ (σ1 p 12 = σ p 12 ∨ σ1 p 12 = σ 1 5)
theorem FSv_rf (σ : Mem) : FSv σ σ := ⟨fun _ _ => rfl, fun _ _ => ⟨fun _ _ => rfl, Or.inl rfl⟩⟩
theorem FSv_tr {a b c : Mem} (h1 : FSv a b) (h2 : FSv b c) : FSv a c := by
  refine ⟨fun x hx => (h2.1 x hx).trans (h1.1 x hx), fun p hp => ⟨fun k hk => ((h2.2 p hp).1 k hk).trans ((h1.2 p hp).1 k hk), ?_⟩⟩
  rcases (h2.2 p hp).2 with e | e
  · rw [e]
    exact (h1.2 p hp).2
  · rw [e, h1.1 1 (by omega)]
    exact Or.inr rfl
theorem set_eq {σ : Mem} {s s' i i' : Nat} (hs : s < 2) (hs' : s' < 2) (hi : i < 9) (hi' : i' < 9) (h : RelRm σ s) (h' : RelRm σ s') (e : ix (σ (setC s + 1) i) = ix (σ (setC s' + 1) i')) : s = s' ∧ i = i' := by
  have a := (h.1 i hi).2
  have b := (h'.1 i' hi').2
  have es : s = s' := by
    unfold polIn at a b
    omega
  subst es
  exact ⟨rfl, h.2 i i' hi hi' e⟩
theorem Rel_sv {σ τ : Mem} {n s i c : Nat} (hn : n < 1000) (h : Rel σ τ n) (hs : s < 2) (hc : σ (setC s) 1 = nI c) (hc8 : c ≤ 8) (hi : i < c) : ∃ σ2, Ju_survey (ix (σ (setC s + 1) i)) σ = some σ2 ∧ Rel σ2 τ n ∧ FSv σ σ2 ∧ σ2 (ix (σ (setC s + 1) i)) 12 = σ 1 5 := by
  obtain ⟨h1, h2, M, h3, h4, h5⟩ := h
  obtain ⟨hR, c', hc', e1, e2, hP⟩ := h5 s hs
  obtain rfl : c' = c := (nI_eq (by omega) (by omega)).mp (e1.symm.trans hc)
  obtain ⟨cs, a1, a2, a3, a4, a5, a6, a7⟩ := hP i hi
  have hp := (hR.1 i (by omega)).1
  have hb := po_val hp
  generalize hpe : ix (σ (setC s + 1) i) = p at *
  obtain ⟨σ2, s1, s2, s3⟩ := X_survey (σ := σ) (p := p) (cs := cs) ⟨hp, ⟨τ, h1⟩, a1, a3, a4⟩ (fun e => a7 (by rw [e, h4]))
  have fc : ∀ c, c ≠ 13 → c ≠ 14 → c ≠ p → c ≠ p + 3 → c ≠ p + 4 → σ2 c = σ c := fun c q1 q2 q3 q4 q5 => by rw [s2 c q1 q2 q4 q5, mrow_ne q3]
  have fp : ∀ k, k ≠ 12 → σ2 p k = σ p k := fun k hk => by rw [FS_p hp s2, mput_ne (by omega)]
  have f12 : σ2 p 12 = σ 1 5 := by rw [FS_p hp s2, mput_eq]
  have wx : WldX σ σ2 := fun c q1 q2 => fc c (by omega) (by omega) (by omega) (by omega) (by omega)
  refine ⟨σ2, s1, ⟨RelW_cg h1 wx (fun _ _ _ => rfl), RelT_cg h2 (by rw [fc 15 (by omega) (by omega) (by omega) (by omega) (by omega)]) (fc 16 (by omega) (by omega) (by omega) (by omega) (by omega)) rfl rfl, M, h3, by rw [fc 1 (by omega) (by omega) (by omega) (by omega) (by omega)]; exact h4, fun s' hs' => ?_⟩, ⟨fun c q => fc c (by omega) (by omega) (by omega) (by omega) (by omega), fun p' hp' => ?_⟩, f12⟩
  · obtain ⟨hR', c', hc', e1', e2', hP'⟩ := h5 s' hs'
    have sv := setC_v hs'
    have r0 : σ2 (setC s') = σ (setC s') := fc _ (by omega) (by omega) (by omega) (by omega) (by omega)
    have r1 : σ2 (setC s' + 1) = σ (setC s' + 1) := fc _ (by omega) (by omega) (by omega) (by omega) (by omega)
    refine ⟨?_, c', hc', by rw [r0]; exact e1', e2', fun i' hi' => ?_⟩
    · unfold RelRm
      rw [r1]
      exact hR'
    · rw [r1]
      have hp' := (hR'.1 i' (by omega)).1
      by_cases hpp : ix (σ (setC s' + 1) i') = p
      · obtain ⟨es, ei⟩ := set_eq hs hs' (show i < 9 by omega) (show i' < 9 by omega) hR hR' (hpe.trans hpp.symm)
        subst es
        subst ei
        rw [hpe]
        refine ⟨cs, ?_, a2, a3, by rw [fp 3 (by omega)]; exact a4, ?_, Or.inr ⟨M, Nat.le_refl _, by rw [f12, h4]⟩, fun _ => s3⟩
        · obtain ⟨m, m1, m2, m3⟩ := a1
          refine ⟨m, by rw [fp 9 (by omega)]; exact m1, m2, ?_⟩
          rw [fc (p + 1) (by omega) (by omega) (by omega) (by omega) (by omega), fc (p + 2) (by omega) (by omega) (by omega) (by omega) (by omega)]
          exact m3
        · unfold PolS
          rw [fp 4 (by omega), fp 5 (by omega), fp 6 (by omega), fp 0 (by omega), fp 1 (by omega), fp 2 (by omega)]
          exact a5
      · have dj := po_dj hp' hp hpp
        have hb' := po_val hp'
        exact RelP_cg (hP' i' hi') (fun c q1 q2 => fc c (by omega) (by omega) (by omega) (by omega) (by omega)) wx (fun _ _ _ => rfl)
  · by_cases hpp : p' = p
    · subst hpp
      exact ⟨fp, Or.inr f12⟩
    · have dj := po_dj hp' hp hpp
      have hb' := po_val hp'
      have e := fc p' (by omega) (by omega) (by omega) (by omega) (by omega)
      rw [e]
      exact ⟨fun _ _ => rfl, Or.inl rfl⟩
theorem Rel_svs {σ τ : Mem} {n s c : Nat} (hn : n < 1000) (hs : s < 2) (hc : σ (setC s) 1 = nI c) (hc8 : c ≤ 8) (hR : RelRm σ s) : ∀ (d i f : Nat) (σ1 : Mem), i + d = c → d < f → Rel σ1 τ n → FSv σ σ1 → (∀ j, j < i → σ1 (ix (σ (setC s + 1) j)) 12 = σ 1 5) →
    ∃ σ2, Se_survey_b2 f (setC s) (nI i) σ1 = some σ2 ∧ Rel σ2 τ n ∧ FSv σ σ2 ∧ (∀ j, j < c → σ2 (ix (σ (setC s + 1) j)) 12 = σ 1 5) := by
  have sv := setC_v hs
  intro d
  induction d with
  | zero =>
    intro i f σ1 hi hf h1 h2 h3
    obtain ⟨f, rfl⟩ : ∃ m, f = m + 1 := ⟨f - 1, by omega⟩
    obtain rfl : i = c := by omega
    rw [Se_survey_b2, h2.1 (setC s) (by omega), hc, if_pos (nI_le (Nat.le_refl _) (by omega))]
    exact ⟨σ1, rfl, h1, h2, h3⟩
  | succ d ih =>
    intro i f σ1 hi hf h1 h2 h3
    obtain ⟨f, rfl⟩ : ∃ m, f = m + 1 := ⟨f - 1, by omega⟩
    have hp := (hR.1 i (by omega)).1
    have r0 := h2.1 (setC s) (by omega)
    have r1 := h2.1 (setC s + 1) (by omega)
    obtain ⟨σ2, s1, s2, s3, s4⟩ := Rel_sv (i := i) (c := c) hn h1 hs (by rw [r0]; exact hc) hc8 (by omega)
    rw [r1] at s1 s4
    rw [h2.1 1 (by omega)] at s4
    rw [Se_survey_b2, r0, hc, if_neg (nI_ge (by omega) (by omega)), if_pos (pmIn_nI (by omega) (by omega)), nI_clamp (by omega), r1, if_pos hp, s1, Option.bind_some, nI_1]
    refine ih (i + 1) f σ2 (by omega) (by omega) s2 (FSv_tr h2 s3) (fun j hj => ?_)
    by_cases e : j = i
    · rw [e]
      exact s4
    · have hpj := (hR.1 j (by omega)).1
      rcases (s3.2 _ hpj).2 with q | q
      · rw [q]
        exact h3 j (by omega)
      · rw [q, h2.1 1 (by omega)]
theorem X_svs {σ τ : Mem} {n s : Nat} (hn : n < 1000) (hs : s < 2) (h : Rel σ τ n) : ∃ σ2 c, Se_survey (setC s) σ = some σ2 ∧ Rel σ2 τ n ∧ FSv σ σ2 ∧ σ2 (setC s) 1 = nI c ∧ c ≤ 8 ∧ ∀ j, j < c → σ2 (ix (σ2 (setC s + 1) j)) 12 = σ2 1 5 := by
  have sv := setC_v hs
  have h0 := h
  obtain ⟨h1, h2, M, h3, h4, h5⟩ := h
  obtain ⟨hR, c, hc, e1, e2, hP⟩ := h5 s hs
  obtain ⟨σ2, s1, s2, s3, s4⟩ := Rel_svs hn hs e1 hc hR c 0 2100 σ (by omega) (by omega) h0 (FSv_rf σ) (fun j hj => absurd hj (Nat.not_lt_zero j))
  refine ⟨σ2, c, s1, s2, s3, by rw [s3.1 (setC s) (by omega)]; exact e1, hc, fun j hj => ?_⟩
  rw [s3.1 (setC s + 1) (by omega), s3.1 1 (by omega)]
  exact s4 j hj
/-- the verdicts, and that surveyed caches hold them -/
theorem mk_VdC {σ τ : Mem} {n s : Nat} (h : Rel σ τ n) (hs : s < 2) : ∃ c V, Vd σ τ s c V ∧ ∀ i, i < c → σ (ix (σ (setC s + 1) i)) 12 = σ 1 5 → ∀ r, r < 2048 → rb (σ (ix (σ (setC s + 1) i) + 3)) r = decide (V i r = 1) ∧ rb (σ (ix (σ (setC s + 1) i) + 4)) r = decide (V i r = 2) := by
  obtain ⟨h1, h2, M, h3, h4, h5⟩ := h
  obtain ⟨r1, c, hc, e1, e2, hp⟩ := h5 s hs
  obtain ⟨C, hC⟩ := fin_ch (P := fun i cs => PolX σ (ix (σ (setC s + 1) i)) cs ∧ PolM τ (8 * s + i) cs ∧ DepW cs ∧ PolS σ τ (ix (σ (setC s + 1) i)) (8 * s + i) ∧ (σ (ix (σ (setC s + 1) i)) 12 = nI M → CacheOk σ (ix (σ (setC s + 1) i)) cs)) [] c (fun i hi => by
    obtain ⟨cs, a1, a2, a3, a4, a5, a6, a7⟩ := hp i hi
    exact ⟨cs, a1, a2, a3, a5, a7⟩)
  have ho : OkW σ := ⟨τ, h1⟩
  refine ⟨c, vC σ s C, ⟨⟨e1, e2, hc⟩, fun i hi => ?_, fun i r hi hr => vp_012 _ _ _ _ _ _, fun i r σ1 hi hr hf => ?_, fun i r τ1 hi hr hf => ?_⟩, fun i hi h12 r hr => ?_⟩
  · obtain ⟨-, -, -, ⟨-, -, q3, -, -⟩, -⟩ := hC i hi
    exact ⟨(r1.1 i (by omega)).1, q3.1, q3.2⟩
  · obtain ⟨⟨m, m1, m2, m3⟩, -, hd, -, -⟩ := hC i hi
    have hq := (r1.1 i (by omega)).1
    have hb := po_ne hq
    unfold vC
    generalize ix (σ (setC s + 1) i) = p at hq hb m1 m3
    have f0 := hf.1 p (by omega) (by omega)
    have f1 := hf.1 (p + 1) (by omega) (by omega)
    have f2 := hf.1 (p + 2) (by omega) (by omega)
    rw [← f0] at m1
    rw [← f1, ← f2] at m3
    obtain ⟨σ2, s1, s2⟩ := X_verdict (r := r) hq hr (OkW_cg ho (Fx1_W hf)) m1 m2 m3
    refine ⟨σ2, ?_, Fx1_tr hf s2⟩
    rw [s1, vp_w hd (Fx1_W hf), f0]
  · obtain ⟨-, ⟨m, m1, m2, m3⟩, -, ⟨q1, q2, -, -, -⟩, -⟩ := hC i hi
    have fm : ∀ c, c ≠ 41 → τ1 c = τ c := hf
    have hw1 : RelW σ τ1 := RelW_cg h1 (fun _ _ _ => rfl) (fun c a b => fm c (by omega))
    rw [← fm 11 (by omega)] at m1
    rw [← fm 12 (by omega), ← fm 13 (by omega)] at m3
    obtain ⟨τ2, t1, t2⟩ := M_work (σ := σ) (p := 8 * s + i) (r := r) (by omega) hr hw1 m1 m2 m3 (by rw [fm 8 (by omega)]; exact q2.1) (by rw [fm 8 (by omega)]; exact q2.2.1) (by rw [fm 8 (by omega)]; exact q2.2.2) q1.1 q1.2.1 q1.2.2
    exact ⟨τ2, t1, FxM_tr' hf t2⟩
  · obtain ⟨-, -, -, -, hk⟩ := hC i hi
    obtain ⟨k1, k2⟩ := hk (by rw [h12, h4]) r hr
    rw [tb_at (by omega)] at k1 k2
    unfold rb vC
    constructor
    · rw [Bool.eq_iff_iff, k1, decide_eq_true_eq]
    · rw [Bool.eq_iff_iff, k2, decide_eq_true_eq]
