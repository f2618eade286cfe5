def alE (P Q : Nat → Bool) : Nat → Bool
  | 0 => true
  | n + 1 => alE P Q n && (P n == Q n)
theorem alE_s (P Q : Nat → Bool) (n : Nat) : alE P Q (n + 1) = (alE P Q n && (P n == Q n)) := rfl
theorem alE_t {P Q : Nat → Bool} : ∀ n, (∀ r, r < n → P r = Q r) → alE P Q n = true
  | 0, _ => rfl
  | n + 1, h => by
    rw [alE_s, alE_t n (fun r hr => h r (by omega)), h n (by omega)]
    simp
theorem alE_f {P Q : Nat → Bool} {r : Nat} (h : P r ≠ Q r) : ∀ n, r < n → alE P Q n = false
  | 0, hn => absurd hn (Nat.not_lt_zero r)
  | n + 1, hn => by
    rw [alE_s]
    by_cases e : r = n
    · subst e
      rw [show (P r == Q r) = false from by simpa using h, Bool.and_false]
    · rw [alE_f h n (by omega), Bool.false_and]
theorem alE_dn {P Q : Nat → Bool} {k : Nat} (h : alE P Q k = false) : ∀ d, alE P Q (k + d) = false
  | 0 => h
  | d + 1 => by
    rw [← Nat.add_assoc, alE_s, alE_dn h d, Bool.false_and]
theorem X_nb29 {σ τ : Mem} {s c z : Nat} {v : Int32} {V : Nat → Nat → Int32} (hs : s < 2) (hV : Vd σ τ s c V) (hC : Cch σ s c V) (hv : skp v z) : ∀ (d w n : Nat), w + d = 64 → d < n → (∀ r, r < 32 * w → alw V (pmP σ s) c 9 r = alw V (pmP σ s) c z r) →
    Ps_needless_b29 n v (setC s) (nI w) σ = some (b2i (alE (alw V (pmP σ s) c 9) (alw V (pmP σ s) c z) 2048), σ) := by
  intro d
  induction d with
  | zero =>
    intro w n hw hn hr
    obtain ⟨n, rfl⟩ : ∃ m, n = m + 1 := ⟨n - 1, by omega⟩
    obtain rfl : w = 64 := by omega
    rw [Ps_needless_b29, if_pos (by decide), alE_t 2048 (fun r h => hr r (by omega))]
    rfl
  | succ d ih =>
    intro w n hw hn hr
    obtain ⟨n, rfl⟩ : ∃ m, n = m + 1 := ⟨n - 1, by omega⟩
    have n64 : ¬ (64 : Int32) ≤ nI w := nI_ge (a := w) (b := 64) (by omega) (by omega)
    obtain ⟨x, x1, x2⟩ := X_abs (σ1 := σ) hs hV hC (show w < 64 by omega) skp_no (fun _ _ => rfl)
    obtain ⟨y, y1, y2⟩ := X_abs (σ1 := σ) hs hV hC (show w < 64 by omega) hv (fun _ _ => rfl)
    rw [Ps_needless_b29, if_neg n64, x1, Option.bind_some, y1, Option.bind_some, nI_1]
    by_cases e : x = y
    · rw [if_pos e]
      refine ih (w + 1) n (by omega) (by omega) (fun r hr2 => ?_)
      by_cases er : r / 32 = w
      · have g := x2 (r % 32) (by omega)
        have g2 := y2 (r % 32) (by omega)
        rw [show 32 * w + r % 32 = r by omega] at g g2
        rw [← g, ← g2, e]
      · exact hr r (by omega)
    · rw [if_neg e]
      have : ∃ g, g < 32 ∧ alw V (pmP σ s) c 9 (32 * w + g) ≠ alw V (pmP σ s) c z (32 * w + g) := by
        refine Classical.byContradiction (fun no => e (tb_ext (fun g hg => ?_)))
        rw [x2 g hg, y2 g hg]
        exact Classical.byContradiction (fun q => no ⟨g, hg, q⟩)
      obtain ⟨g, hg, hne⟩ := this
      rw [alE_f hne 2048 (by omega)]
      rfl
theorem M_nb17 {σ τ : Mem} {s c z : Nat} {v : Int32} {V : Nat → Nat → Int32} (hs : s < 2) (hV : Vd σ τ s c V) (hv : skp v z) : ∀ (d r n : Nat) (τ1 : Mem), r + d = 2048 → d < n → FxM τ τ1 →
    ∃ τ2, Mo_needless_b17 n (nI s) v (b2i (alE (alw V (pmP σ s) c 9) (alw V (pmP σ s) c z) r)) (nI r) τ1 = some (b2i (alE (alw V (pmP σ s) c 9) (alw V (pmP σ s) c z) 2048), τ2) ∧ FxM τ τ2 := by
  have b60 : ∀ (b : Bool) (τ : Mem), Mo_needless_b60 (b2i b) τ = some (b2i b, τ) := fun b τ => by cases b <;> rfl
  intro d
  induction d with
  | zero =>
    intro r n τ1 hr hn hf
    obtain ⟨n, rfl⟩ : ∃ m, n = m + 1 := ⟨n - 1, by omega⟩
    obtain rfl : r = 2048 := by omega
    rw [Mo_needless_b17, if_pos (by decide), b60]
    exact ⟨τ1, rfl, hf⟩
  | succ d ih =>
    intro r n τ1 hr hn hf
    obtain ⟨n, rfl⟩ : ∃ m, n = m + 1 := ⟨n - 1, by omega⟩
    have nn : ¬ (2048 : Int32) ≤ nI r := nI_ge (a := r) (b := 2048) (by omega) (by omega)
    rw [Mo_needless_b17, if_neg nn, b60]
    cases he : alE (alw V (pmP σ s) c 9) (alw V (pmP σ s) c z) r
    · rw [if_pos (show b2i false = 0 from rfl)]
      have := alE_dn he (d + 1)
      rw [show r + (d + 1) = 2048 by omega] at this
      rw [this]
      exact ⟨τ1, rfl, hf⟩
    · rw [if_neg (show ¬ b2i true = 0 by decide)]
      obtain ⟨τ2, x1, x2⟩ := M_all (z := 9) (v := -1) (r := r) hs (Vd_M hV hf) (by omega) skp_no
      have x3 := FxM_tr' hf x2
      obtain ⟨τ3, y1, y2⟩ := M_all (r := r) hs (Vd_M hV x3) (by omega) hv
      have y3 := FxM_tr' x3 y2
      rw [x1, Option.bind_some, y1, Option.bind_some, nI_1]
      obtain ⟨τ4, z1, z2⟩ := ih (r + 1) n τ3 (by omega) (by omega) y3
      refine ⟨τ4, ?_, z2⟩
      rw [← z1, alE_s, he, Bool.true_and]
      show (if ¬ b2i (alw V (pmP σ s) c 9 r) = b2i (alw V (pmP σ s) c z r) then _ else _) = _
      cases alw V (pmP σ s) c 9 r <;> cases alw V (pmP σ s) c z r <;> rfl
theorem S_needless : Stp_needless Rel := fun σ τ n h hn a b => by
  have h0 := h
  obtain ⟨h1, h2, M, h3, h4, h5⟩ := h
  unfold Ps_needless Mo_needless
  rcases isPol_c h5 a b with ⟨q1, q2⟩ | ⟨s, i, c, hs, hi, hc, rfl, rfl, e1, e2, q1, q2⟩
  · rw [q1, q2]
    exact ⟨-2, σ, τ, rfl, rfl, Rel_up σ τ n h0⟩
  · rw [q1, q2, Option.bind_some, Option.bind_some, if_pos (by decide), if_pos (by decide), chosen_v hs, Option.bind_some]
    obtain ⟨σ2, c2, s1, s2, s3, s4, s5, s6⟩ := X_svs (by omega) hs h0
    obtain ⟨c', V, hV, hk⟩ := mk_VdC s2 hs
    obtain rfl : c' = c2 := (nI_eq (by have := hV.1.2.2; omega) (by omega)).mp (hV.1.1.symm.trans s4)
    have x1 := X_nb29 hs hV (fun i hi r hr => hk i hi (s6 i hi) r hr) (skp_n (z := i) (by omega)) 64 0 2100 (by omega) (by omega) (fun r hr => by omega)
    obtain ⟨τ3, y1, y2⟩ := M_nb17 hs hV (skp_n (z := i) (by omega)) 2048 0 2100 τ (by omega) (by omega) (fun _ _ => rfl)
    rw [s1, Option.bind_some]
    exact ⟨_, σ2, τ3, x1, y1, Rel_X s2 (fun _ _ => rfl) y2⟩
theorem M_pb93 {σ τ : Mem} {s c i : Nat} {v3 y : Int32} {V : Nat → Nat → Int32} (hs : s < 2) (hV : Vd σ τ s c V) (hi : i < c) (hy : (v3 = 3 ∧ y = 1) ∨ (v3 = 4 ∧ y = 2)) : ∀ (d r n : Nat) (τ1 : Mem), r + d = 2048 → d < n → FxM τ τ1 →
    ∃ τ2, Mo_policy_b93 n v3 (nI (8 * s + i)) (nI (cnt (fun r => decide (V i r = y)) r)) (nI r) τ1 = some (nI (cnt (fun r => decide (V i r = y)) 2048), τ2) ∧ FxM τ τ2 := by
  obtain ⟨⟨e1, e2, hc⟩, hi0, h3, hX, hM⟩ := hV
  intro d
  induction d with
  | zero =>
    intro r n τ1 hr hn hf
    obtain ⟨n, rfl⟩ : ∃ m, n = m + 1 := ⟨n - 1, by omega⟩
    obtain rfl : r = 2048 := by omega
    rw [Mo_policy_b93, if_pos (by decide)]
    exact ⟨τ1, rfl, hf⟩
  | succ d ih =>
    intro r n τ1 hr hn hf
    obtain ⟨n, rfl⟩ : ∃ m, n = m + 1 := ⟨n - 1, by omega⟩
    have nn : ¬ (2048 : Int32) ≤ nI r := nI_ge (a := r) (b := 2048) (by omega) (by omega)
    obtain ⟨τ2, x1, x2⟩ := hM i r τ1 hi (by omega) hf
    rw [Mo_policy_b93, if_neg nn, x1, Option.bind_some]
    obtain ⟨τ3, z1, z2⟩ := ih (r + 1) n τ2 (by omega) (by omega) x2
    have vm := vM_1 (h3 i r hi (by omega))
    have g : ∀ s1 : Int32, (vM (V i r) = s1 ↔ V i r = y) → ∃ τ3, Mo_policy_b119 (Mo_policy_b93 n) v3 (nI (8 * s + i)) (nI (cnt (fun r => decide (V i r = y)) r)) (nI r) (vM (V i r)) s1 τ2 = some (nI (cnt (fun r => decide (V i r = y)) 2048), τ3) ∧ FxM τ τ3 := fun s1 hs1 => by
      refine ⟨τ3, ?_, z2⟩
      unfold Mo_policy_b119
      rw [← z1, cnt_s, nI_1, nI_1]
      by_cases v1 : V i r = y
      · rw [if_neg (fun q : ¬ vM (V i r) = s1 => q (hs1.mpr v1)), if_pos (decide_eq_true v1)]
      · rw [if_pos (fun q => v1 (hs1.mp q)), if_neg (by rw [decide_eq_false v1]; decide)]
        rfl
    rcases hy with ⟨rfl, rfl⟩ | ⟨rfl, rfl⟩
    · rw [if_neg (fun q => q rfl)]
      exact g 1 vm.1
    · rw [if_pos (by decide)]
      exact g (-1) vm.2
theorem five_c (v : Int32) : (v < 0 ∧ ¬ v = 0 ∧ ¬ v = 1 ∧ ¬ v = 2 ∧ ¬ v = 3 ∧ ¬ v = 4) ∨ (¬ v < 0 ∧ ¬ v ≤ 4 ∧ ¬ v = 0 ∧ ¬ v = 1 ∧ ¬ v = 2 ∧ ¬ v = 3 ∧ ¬ v = 4) ∨ v = 0 ∨ v = 1 ∨ v = 2 ∨ v = 3 ∨ v = 4 := by
  by_cases h0 : v < 0
  · exact Or.inl ⟨h0, fun z => absurd h0 (by rw [z]; decide), fun z => absurd h0 (by rw [z]; decide), fun z => absurd h0 (by rw [z]; decide), fun z => absurd h0 (by rw [z]; decide), fun z => absurd h0 (by rw [z]; decide)⟩
  · by_cases h4 : v ≤ 4
    · obtain ⟨j, hj, rfl⟩ := nI_of2 (M := 4) (n := 4) (by decide) h0 h4
      right
      right
      rcases (show j = 0 ∨ j = 1 ∨ j = 2 ∨ j = 3 ∨ j = 4 by omega) with rfl | rfl | rfl | rfl | rfl
      · exact Or.inl rfl
      · exact Or.inr (Or.inl rfl)
      · exact Or.inr (Or.inr (Or.inl rfl))
      · exact Or.inr (Or.inr (Or.inr (Or.inl rfl)))
      · exact Or.inr (Or.inr (Or.inr (Or.inr rfl)))
    · exact Or.inr (Or.inl ⟨h0, h4, fun z => absurd (by rw [z]; decide) h4, fun z => absurd (by rw [z]; decide) h4, fun z => absurd (by rw [z]; decide) h4, fun z => absurd (by rw [z]; decide) h4, fun z => absurd (by rw [z]; decide) h4⟩)
theorem S_policy : Stp_policy Rel := fun σ τ n h hn a b v => by
  have h0 := h
  obtain ⟨h1, h2, M, h3, h4, h5⟩ := h
  have no : ∃ (r : Int32) (σ1 τ1 : Mem), some ((-2 : Int32), σ) = some (r, σ1) ∧ some ((-2 : Int32), τ) = some (r, τ1) ∧ Rel σ1 τ1 (n + 1) := ⟨-2, σ, τ, rfl, rfl, Rel_up σ τ n h0⟩
  unfold Ps_policy Mo_policy
  rcases isPol_c h5 a b with ⟨q1, q2⟩ | ⟨s, i, c, hs, hi, hc, rfl, rfl, e1, e2, q1, q2⟩
  · rw [q1, q2]
    exact no
  · obtain ⟨hR, c', hc', e1', e2', hP⟩ := h5 s hs
    obtain rfl : c' = c := (nI_eq (by omega) (by omega)).mp (e1'.symm.trans e1)
    have hp := (hR.1 i (by omega)).1
    obtain ⟨cs, a1, a2, a3, a4, ⟨p1, p2, p3, p4, p5⟩, a6, a7⟩ := hP i hi
    have e : (8 : Int32) * nI s + nI i = nI (8 * s + i) := by rw [show (8 : Int32) = nI 8 from rfl, pk_mul, nI_add]
    have p17 : pmIn (nI (8 * s + i)) 17 = true := pmIn_nI (by omega) (by omega)
    have sg : Se_get (setC s) (nI i) σ = some (ix (σ (setC s + 1) i)) := by
      unfold Se_get
      rw [if_pos (pmIn_nI (by omega) (by omega)), nI_clamp (by omega), if_pos hp]
    rw [q1, q2, Option.bind_some, Option.bind_some, if_pos (by decide), if_neg (by decide), chosen_v hs, Option.bind_some, sg, Option.bind_some, e, if_pos p17, if_pos p17, if_pos p17, nI_clamp (by omega), p3.1, p4.1, p5]
    have stay : ∀ r, ∃ (r1 : Int32) (σ1 τ1 : Mem), some ((r : Int32), σ) = some (r1, σ1) ∧ some ((r : Int32), τ) = some (r1, τ1) ∧ Rel σ1 τ1 (n + 1) := fun r => ⟨r, σ, τ, rfl, rfl, Rel_up σ τ n h0⟩
    rcases five_c v with ⟨c0, n0, n1, n2, n3, n4⟩ | ⟨c0, c4, n0, n1, n2, n3, n4⟩ | rfl | rfl | rfl | rfl | rfl
    · rw [if_neg n0, if_neg n1, if_neg n2, if_neg n3, if_neg n4, if_pos c0]
      exact no
    · rw [if_neg n0, if_neg n1, if_neg n2, if_neg n3, if_neg n4, if_neg c0, if_neg c4]
      exact no
    · rw [if_pos rfl, if_neg (show ¬ (0 : Int32) < 0 by decide), if_pos (show (0 : Int32) ≤ 4 by decide), if_neg (show ¬ (3 : Int32) ≤ 0 by decide), if_neg (show ¬ ¬ (0 : Int32) = 0 by decide)]
      by_cases z : σ (ix (σ (setC s + 1) i)) 0 = 0
      · rw [if_pos z, if_pos z]
        exact stay 0
      · rw [if_neg z, if_neg z]
        exact stay 1
    · rw [if_neg (by decide), if_pos rfl, if_neg (by decide), if_pos (by decide), if_neg (by decide), if_pos (by decide), if_neg (fun q => q rfl)]
      exact stay _
    · rw [if_neg (show ¬ (2 : Int32) = 0 by decide), if_neg (show ¬ (2 : Int32) = 1 by decide), if_pos rfl, if_neg (show ¬ (2 : Int32) < 0 by decide), if_pos (show (2 : Int32) ≤ 4 by decide), if_neg (show ¬ (3 : Int32) ≤ 2 by decide), if_pos (show ¬ (2 : Int32) = 0 by decide), if_pos (show ¬ (2 : Int32) = 1 by decide)]
      by_cases z : σ (ix (σ (setC s + 1) i)) 1 = 0
      · rw [if_pos z, if_pos z]
        exact stay 0
      · rw [if_neg z, if_neg z]
        exact stay 1
    · rw [if_neg (by decide), if_neg (by decide), if_neg (by decide), if_pos rfl, if_neg (by decide), if_pos (by decide), if_pos (by decide)]
      obtain ⟨σ2, s1, s2, s3, s4⟩ := Rel_sv (by omega) h0 hs e1 hc hi
      obtain ⟨c2, V, hV, hk⟩ := mk_VdC s2 hs
      have sv := setC_v hs
      have r1 := s3.1 (setC s + 1) (by omega)
      obtain rfl : c2 = c' := (nI_eq (by have := hV.1.2.2; omega) (by omega)).mp (hV.1.1.symm.trans (by rw [s3.1 (setC s) (by omega)]; exact e1))
      obtain ⟨τ3, y1, y2⟩ := M_pb93 (y := 1) hs hV hi (Or.inl ⟨rfl, rfl⟩) 2048 0 2100 τ (by omega) (by omega) (fun _ _ => rfl)
      have hk2 := hk i hi (by rw [r1, s4, s3.1 1 (by omega)])
      rw [r1] at hk2
      rw [s1, Option.bind_some, X_count, Option.bind_some, cnt_cg 2048 (fun r hr => (hk2 r hr).1)]
      exact ⟨_, σ2, τ3, rfl, y1, Rel_X s2 (fun _ _ => rfl) y2⟩
    · rw [if_neg (by decide), if_neg (by decide), if_neg (by decide), if_neg (by decide), if_pos rfl, if_neg (by decide), if_pos (by decide), if_pos (by decide)]
      obtain ⟨σ2, s1, s2, s3, s4⟩ := Rel_sv (by omega) h0 hs e1 hc hi
      obtain ⟨c2, V, hV, hk⟩ := mk_VdC s2 hs
      have sv := setC_v hs
      have r1 := s3.1 (setC s + 1) (by omega)
      obtain rfl : c2 = c' := (nI_eq (by have := hV.1.2.2; omega) (by omega)).mp (hV.1.1.symm.trans (by rw [s3.1 (setC s) (by omega)]; exact e1))
      obtain ⟨τ3, y1, y2⟩ := M_pb93 (y := 2) hs hV hi (Or.inr ⟨rfl, rfl⟩) 2048 0 2100 τ (by omega) (by omega) (fun _ _ => rfl)
      have hk2 := hk i hi (by rw [r1, s4, s3.1 1 (by omega)])
      rw [r1] at hk2
      rw [s1, Option.bind_some, X_count, Option.bind_some, cnt_cg 2048 (fun r hr => (hk2 r hr).2)]
      exact ⟨_, σ2, τ3, rfl, y1, Rel_X s2 (fun _ _ => rfl) y2⟩
