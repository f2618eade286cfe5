/-- a set's caches hold its verdicts -/
def Cch (σ : Mem) (s c : Nat) (V : Nat → Nat → Int32) : Prop := ∀ i, i < c → ∀ r, r < 2048 → rb (σ (ix (σ (setC s + 1) i) + 3)) r = decide (V i r = 1) ∧ rb (σ (ix (σ (setC s + 1) i) + 4)) r = decide (V i r = 2)
def F111 (σ σ1 : Mem) : Prop := ∀ c, c ≠ 111 → σ1 c = σ c
theorem X_ab {σ τ : Mem} {s c w z : Nat} {v : Int32} {V : Nat → Nat → Int32} (hs : s < 2) (hV : Vd σ τ s c V) (hC : Cch σ s c V) (hw : w < 64) (hv : skp v z) : ∀ (d i n : Nat) (A B : Int32) (σ1 : Mem), i + d = c → d < n → F111 σ σ1 →
    (∀ g, g < 32 → tb A g = anyV V (pmP σ s) 1 z (32 * w + g) i) → (∀ g, g < 32 → tb B g = anyV V (pmP σ s) 0 z (32 * w + g) i) →
    ∃ x, Se_allowedBits_b8 n (setC s) (nI w) v A B (nI i) σ1 = some x ∧ ∀ g, g < 32 → tb x g = alw V (pmP σ s) c z (32 * w + g) := by
  obtain ⟨⟨e1, e2, hc⟩, hi0, h3, hX, hM⟩ := hV
  have sv := setC_v hs
  intro d
  induction d with
  | zero =>
    intro i n A B σ1 hi hn hf hA hB
    obtain ⟨n, rfl⟩ : ∃ m, n = m + 1 := ⟨n - 1, by omega⟩
    obtain rfl : i = c := by omega
    rw [Se_allowedBits_b8, hf (setC s) (by omega), e1, if_pos (nI_le (Nat.le_refl _) (by omega))]
    refine ⟨_, rfl, fun g hg => ?_⟩
    rw [tb_and, tb_xor, tb_m1 hg, hA g hg, hB g hg, Bool.xor_true]
    rfl
  | succ d ih =>
    intro i n A B σ1 hi hn hf hA hB
    obtain ⟨n, rfl⟩ : ∃ m, n = m + 1 := ⟨n - 1, by omega⟩
    obtain ⟨p1, -, p3⟩ := hi0 i (by omega)
    have pb := po_val p1
    have r1 := hf (setC s + 1) (by omega)
    have q0 := hf (ix (σ (setC s + 1) i)) (by omega)
    have q3 := hf (ix (σ (setC s + 1) i) + 3) (by omega)
    have p9 : pmIn (nI i) 9 = true := pmIn_nI (by omega) (by omega)
    have key : ∀ x : Int32, (∀ g, g < 32 → tb x g = (decide (i ≠ z) && decide (V i (32 * w + g) = 1))) → ∃ y, Se_allowedBits_b39 (Se_allowedBits_b8 n) (setC s) (nI w) v A B (nI i) x σ1 = some y ∧ ∀ g, g < 32 → tb y g = alw V (pmP σ s) c z (32 * w + g) := fun x hx => by
      unfold Se_allowedBits_b39
      rw [if_pos p9, nI_clamp (by omega), r1, if_pos p1, q0, nI_1]
      rcases p3 with p3 | p3
      · rw [if_pos p3]
        refine ih (i + 1) n _ _ σ1 (by omega) (by omega) hf (fun g hg => ?_) (fun g hg => ?_)
        · rw [hA g hg]
          show _ = (anyV V (pmP σ s) 1 z (32 * w + g) i || (decide (i ≠ z) && (decide (V i (32 * w + g) = 1) && decide (pmP σ s i = 1))))
          rw [decide_eq_false (show ¬ pmP σ s i = 1 by rw [show pmP σ s i = 0 from p3]; decide), Bool.and_false, Bool.and_false, Bool.or_false]
        · rw [tb_or, hB g hg, hx g hg]
          show _ = (anyV V (pmP σ s) 0 z (32 * w + g) i || (decide (i ≠ z) && (decide (V i (32 * w + g) = 1) && decide (pmP σ s i = 0))))
          rw [decide_eq_true (show pmP σ s i = 0 from p3), Bool.and_true]
      · rw [if_neg (by rw [p3]; decide)]
        refine ih (i + 1) n _ _ σ1 (by omega) (by omega) hf (fun g hg => ?_) (fun g hg => ?_)
        · rw [tb_or, hA g hg, hx g hg]
          show _ = (anyV V (pmP σ s) 1 z (32 * w + g) i || (decide (i ≠ z) && (decide (V i (32 * w + g) = 1) && decide (pmP σ s i = 1))))
          rw [decide_eq_true (show pmP σ s i = 1 from p3), Bool.and_true]
        · rw [hB g hg]
          show _ = (anyV V (pmP σ s) 0 z (32 * w + g) i || (decide (i ≠ z) && (decide (V i (32 * w + g) = 1) && decide (pmP σ s i = 0))))
          rw [decide_eq_false (show ¬ pmP σ s i = 0 by rw [show pmP σ s i = 1 from p3]; decide), Bool.and_false, Bool.and_false, Bool.or_false]
    rw [Se_allowedBits_b8, hf (setC s) (by omega), e1, if_neg (nI_ge (by omega) (by omega))]
    by_cases hz : i = z
    · rw [if_neg (fun q : ¬ nI i = v => q ((hv i (by omega)).mpr hz))]
      exact key 0 (fun g hg => by rw [tb_0, decide_eq_false (fun q : i ≠ z => q hz), Bool.false_and])
    · rw [if_pos (fun q => hz ((hv i (by omega)).mp q)), if_pos p9, nI_clamp (by omega), r1, if_pos p1, if_pos (pmIn_nI hw (by omega)), nI_clamp (by omega), q3]
      refine key _ (fun g hg => ?_)
      rw [decide_eq_true (show i ≠ z from hz), Bool.true_and]
      have := (hC i (by omega) (32 * w + g) (by omega)).1
      unfold rb at this
      rw [show (32 * w + g) / 32 = w by omega, show (32 * w + g) % 32 = g by omega] at this
      exact this
theorem X_abs {σ τ σ1 : Mem} {s c w z : Nat} {v : Int32} {V : Nat → Nat → Int32} (hs : s < 2) (hV : Vd σ τ s c V) (hC : Cch σ s c V) (hw : w < 64) (hv : skp v z) (hf : F111 σ σ1) : ∃ x, Se_allowedBits (setC s) (nI w) v σ1 = some x ∧ ∀ g, g < 32 → tb x g = alw V (pmP σ s) c z (32 * w + g) :=
  X_ab hs hV hC hw hv c 0 2100 0 0 σ1 (by omega) (by have := hV.1.2.2; omega) hf (fun g hg => tb_0 g) (fun g hg => tb_0 g)
/-- the answer of allows, from the set of allowed requests -/
def alAns (v2 : Int32) (P : Nat → Bool) : Int32 := if ¬ v2 = 0 then if ¬ v2 = 1 then lstR P 2048 else fstR P 2048 else nI (cnt P 2048)
theorem alAns_cg {v2 : Int32} {P Q : Nat → Bool} (h : ∀ r, r < 2048 → P r = Q r) : alAns v2 P = alAns v2 Q := by
  unfold alAns
  rw [lstR_cg 2048 h, fstR_cg 2048 h, cnt_cg 2048 h]
theorem X_b36 {σ τ : Mem} {s c : Nat} {v2 : Int32} {V : Nat → Nat → Int32} (hs : s < 2) (hV : Vd σ τ s c V) (hC : Cch σ s c V) : ∀ (d w n : Nat) (σ1 : Mem), w + d = 64 → d < n → F111 σ σ1 → (∀ r, r < 32 * w → rb (σ1 111) r = alw V (pmP σ s) c 9 r) →
    ∃ σ2, Ps_allows_b36 n v2 (setC s) (nI w) σ1 = some (alAns v2 (alw V (pmP σ s) c 9), σ2) ∧ F111 σ σ2 := by
  intro d
  induction d with
  | zero =>
    intro w n σ1 hw hn hf hr
    obtain ⟨n, rfl⟩ : ∃ m, n = m + 1 := ⟨n - 1, by omega⟩
    obtain rfl : w = 64 := by omega
    rw [Ps_allows_b36, if_pos (by decide), X_last, X_first, X_count]
    refine ⟨σ1, ?_, hf⟩
    rw [← alAns_cg (P := rb (σ1 111)) (fun r h => hr r (by omega))]
    unfold alAns
    by_cases a0 : v2 = 0
    · rw [if_neg (fun z : ¬ v2 = 0 => z a0), if_neg (fun z : ¬ v2 = 0 => z a0)]
      rfl
    · rw [if_pos a0, if_pos a0]
      by_cases a1 : v2 = 1
      · rw [if_neg (fun z : ¬ v2 = 1 => z a1), if_neg (fun z : ¬ v2 = 1 => z a1)]
        rfl
      · rw [if_pos a1, if_pos a1]
        rfl
  | succ d ih =>
    intro w n σ1 hw hn hf hr
    obtain ⟨n, rfl⟩ : ∃ m, n = m + 1 := ⟨n - 1, by omega⟩
    have n64 : ¬ (64 : Int32) ≤ nI w := nI_ge (a := w) (b := 64) (by omega) (by omega)
    obtain ⟨x, x1, x2⟩ := X_abs (σ1 := σ1) hs hV hC (show w < 64 by omega) skp_no hf
    rw [Ps_allows_b36, if_neg n64, x1, Option.bind_some, if_pos (pmIn_nI (by omega) (by omega)), nI_clamp (by omega), nI_1]
    refine ih (w + 1) n _ (by omega) (by omega) (fun c hc => by rw [mrow_ne hc]; exact hf c hc) (fun r hr2 => ?_)
    unfold rb
    by_cases e : r / 32 = w
    · rw [e, mput_eq, x2 (r % 32) (by omega), show 32 * w + r % 32 = r by omega]
    · rw [mput_ne (by omega)]
      exact hr r (by omega)
theorem fst_m1 {P : Nat → Bool} : ∀ n, n < 3000 → ¬ 0 ≤ fstR P n → fstR P n = -1
  | 0, _, _ => rfl
  | n + 1, hn, h => by
    unfold fstR at h ⊢
    by_cases f0 : 0 ≤ fstR P n
    · rw [if_pos f0] at h
      exact absurd f0 h
    · rw [if_neg f0] at h ⊢
      by_cases e : P n = true
      · rw [if_pos e] at h
        exact absurd (nI_pos' (by omega)) h
      · rw [if_neg e]
theorem cnt_s (P : Nat → Bool) (n : Nat) : cnt P (n + 1) = cnt P n + (if P n = true then 1 else 0) := rfl
theorem fst_s (P : Nat → Bool) (n : Nat) : fstR P (n + 1) = if 0 ≤ fstR P n then fstR P n else if P n = true then nI n else -1 := rfl
theorem lst_s (P : Nat → Bool) (n : Nat) : lstR P (n + 1) = if P n = true then nI n else lstR P n := rfl
theorem M_b31 {σ τ : Mem} {s c : Nat} {v2 : Int32} {V : Nat → Nat → Int32} (hs : s < 2) (hV : Vd σ τ s c V) : ∀ (d r n : Nat) (τ1 : Mem), r + d = 2048 → d < n → FxM τ τ1 →
    ∃ τ2, Mo_allows_b31 n (nI s) v2 (nI (cnt (alw V (pmP σ s) c 9) r)) (fstR (alw V (pmP σ s) c 9) r) (lstR (alw V (pmP σ s) c 9) r) (nI r) τ1 = some (alAns v2 (alw V (pmP σ s) c 9), τ2) ∧ FxM τ τ2 := by
  intro d
  induction d with
  | zero =>
    intro r n τ1 hr hn hf
    obtain ⟨n, rfl⟩ : ∃ m, n = m + 1 := ⟨n - 1, by omega⟩
    obtain rfl : r = 2048 := by omega
    rw [Mo_allows_b31, if_pos (by decide)]
    refine ⟨τ1, ?_, hf⟩
    unfold alAns
    by_cases a0 : v2 = 0
    · rw [if_neg (fun z : ¬ v2 = 0 => z a0), if_neg (fun z : ¬ v2 = 0 => z a0)]
    · rw [if_pos a0, if_pos a0]
      by_cases a1 : v2 = 1
      · rw [if_neg (fun z : ¬ v2 = 1 => z a1), if_neg (fun z : ¬ v2 = 1 => z a1)]
      · rw [if_pos a1, if_pos a1]
  | succ d ih =>
    intro r n τ1 hr hn hf
    obtain ⟨n, rfl⟩ : ∃ m, n = m + 1 := ⟨n - 1, by omega⟩
    have nn : ¬ (2048 : Int32) ≤ nI r := nI_ge (a := r) (b := 2048) (by omega) (by omega)
    obtain ⟨τ2, y1, y2⟩ := M_all (z := 9) (v := -1) (r := r) hs (Vd_M hV hf) (by omega) skp_no
    have y3 := FxM_tr' hf y2
    rw [Mo_allows_b31, if_neg nn, y1, Option.bind_some, nI_1, nI_1]
    obtain ⟨τ3, z1, z2⟩ := ih (r + 1) n τ2 (by omega) (by omega) y3
    refine ⟨τ3, ?_, z2⟩
    rw [← z1]
    show (if b2i (alw V (pmP σ s) c 9 r) = 0 then _ else _) = _
    rw [cnt_s, fst_s, lst_s]
    cases e : alw V (pmP σ s) c 9 r
    · rw [if_pos (show b2i false = 0 from rfl), if_neg (show ¬ false = true by decide), if_neg (show ¬ false = true by decide), if_neg (show ¬ false = true by decide), Nat.add_zero]
      by_cases f0 : 0 ≤ fstR (alw V (pmP σ s) c 9) r
      · rw [if_pos f0]
        rfl
      · rw [if_neg f0, fst_m1 r (by omega) f0]
        rfl
    · rw [if_neg (show ¬ b2i true = 0 by decide), if_pos rfl, if_pos rfl, if_pos rfl]
      by_cases f0 : 0 ≤ fstR (alw V (pmP σ s) c 9) r
      · rw [if_pos f0, if_pos f0]
      · rw [if_neg f0, if_neg f0]
theorem Rel_X {σ τ σ1 τ1 : Mem} {n : Nat} (h : Rel σ τ n) (hx : F111 σ σ1) (fm : FxM τ τ1) : Rel σ1 τ1 (n + 1) := by
  obtain ⟨h1, h2, M, h3, h4, h5⟩ := h
  refine ⟨RelW_cg h1 (fun c a b => hx c (by omega)) (fun c a b => fm c (by omega)), RelT_cg h2 (by rw [hx 15 (by omega)]) (hx 16 (by omega)) (by rw [fm 0 (by omega)]) (fm 5 (by omega)), M, by omega, by rw [hx 1 (by omega)]; exact h4, RelS_cg h5 (fun c a b => hx c (by omega)) (fun c a b => hx c (by omega)) (fun c a b => fm c (by omega))⟩
theorem S_allows : Stp_allows Rel := fun σ τ n h hn a b => by
  have no : ∃ (r : Int32) (σ1 τ1 : Mem), some ((-2 : Int32), σ) = some (r, σ1) ∧ some ((-2 : Int32), τ) = some (r, τ1) ∧ Rel σ1 τ1 (n + 1) := ⟨-2, σ, τ, rfl, rfl, Rel_up σ τ n h⟩
  unfold Ps_allows Mo_allows
  rcases isSet_c a with ⟨a1, a2⟩ | ⟨s, hs, rfl, a1, a2⟩
  · rw [if_pos a1, if_pos a2]
    exact no
  · rw [if_neg (n10 a1), if_neg (n10 a2)]
    by_cases b0 : b < 0
    · rw [if_pos b0, if_pos b0]
      exact no
    · rw [if_neg b0, if_neg b0]
      by_cases b2 : b ≤ 2
      · rw [if_pos b2, if_pos b2, chosen_v hs, Option.bind_some]
        obtain ⟨σ2, c, s1, s2, s3, s4, s5, s6⟩ := X_svs (by omega) hs h
        obtain ⟨c', V, hV, hk⟩ := mk_VdC s2 hs
        obtain rfl : c' = c := (nI_eq (by have := hV.1.2.2; omega) (by omega)).mp (hV.1.1.symm.trans s4)
        obtain ⟨σ3, x1, x2⟩ := X_b36 (v2 := b) hs hV (fun i hi r hr => hk i hi (s6 i hi) r hr) 64 0 2100 σ2 (by omega) (by omega) (fun _ _ => rfl) (fun r hr => by omega)
        obtain ⟨τ3, y1, y2⟩ := M_b31 (v2 := b) hs hV 2048 0 2100 τ (by omega) (by omega) (fun _ _ => rfl)
        rw [s1, Option.bind_some]
        exact ⟨_, σ3, τ3, x1, y1, Rel_X s2 x2 y2⟩
      · rw [if_neg b2, if_neg b2]
        exact no
