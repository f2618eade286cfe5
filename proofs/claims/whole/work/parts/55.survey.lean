def inSc (σ : Mem) (p d : Nat) : Prop := Ju_isInScope (σ p 5) (nI d) 0 = 1
theorem X_b148 {σ : Mem} {p q t : Nat} {A E : Int32} (hp : isPo p) (hq : q < 4) (ht : t < 4) : ∀ (d k n : Nat) (σ1 : Mem), k + d = 4 → d < n → FS p σ σ1 →
    ∃ σ2, Ju_surveyPair_b148 n p (nI q) (nI t) A E (nI k) σ1 = some σ2 ∧ FS p σ σ2 ∧
      ∀ w, w < 64 → (w / 16 = q ∧ w % 4 = t ∧ k ≤ w / 4 % 4 ∧ inSc σ p (w / 4 % 4) → σ2 (p + 3) w = A ∧ σ2 (p + 4) w = E) ∧ (¬ (w / 16 = q ∧ w % 4 = t ∧ k ≤ w / 4 % 4 ∧ inSc σ p (w / 4 % 4)) → σ2 (p + 3) w = σ1 (p + 3) w ∧ σ2 (p + 4) w = σ1 (p + 4) w) := by
  have hb := po_ne hp
  intro d
  induction d with
  | zero =>
    intro k n σ1 hk hn hf
    obtain ⟨n, rfl⟩ : ∃ m, n = m + 1 := ⟨n - 1, by omega⟩
    obtain rfl : k = 4 := by omega
    rw [Ju_surveyPair_b148, if_pos (by decide)]
    exact ⟨σ1, rfl, hf, fun w hw => ⟨fun z => by omega, fun _ => ⟨rfl, rfl⟩⟩⟩
  | succ d ih =>
    intro k n σ1 hk hn hf
    obtain ⟨n, rfl⟩ : ∃ m, n = m + 1 := ⟨n - 1, by omega⟩
    have n4 : ¬ (4 : Int32) ≤ nI k := nI_ge (a := k) (b := 4) (by omega) (by omega)
    rw [Ju_surveyPair_b148, if_neg n4, FS_p hp hf, nI_1]
    rcases inS_01 (σ p 5) (nI k) 0 with hs | hs
    · rw [if_pos hs]
      obtain ⟨σ2, s1, s2, s3⟩ := ih (k + 1) n σ1 (by omega) (by omega) hf
      refine ⟨σ2, s1, s2, fun w hw => ?_⟩
      have e : (w / 16 = q ∧ w % 4 = t ∧ k + 1 ≤ w / 4 % 4 ∧ inSc σ p (w / 4 % 4)) ↔ (w / 16 = q ∧ w % 4 = t ∧ k ≤ w / 4 % 4 ∧ inSc σ p (w / 4 % 4)) := by
        constructor
        · rintro ⟨a, b, c, d⟩
          exact ⟨a, b, by omega, d⟩
        · rintro ⟨a, b, c, d⟩
          refine ⟨a, b, ?_, d⟩
          rcases Nat.lt_or_ge k (w / 4 % 4) with z | z
          · exact z
          · unfold inSc at d
            rw [show w / 4 % 4 = k by omega, hs] at d
            exact absurd d (by decide)
      rw [← e]
      exact s3 w hw
    · have ei : nI q * 16 + nI k * 4 + nI t = nI (16 * q + 4 * k + t) := by
        rw [show (16 : Int32) = nI 16 from rfl, show (4 : Int32) = nI 4 from rfl, pk_mul, pk_mul, nI_add, nI_add, Nat.mul_comm q, Nat.mul_comm k]
      have pi : pmIn (nI (16 * q + 4 * k + t)) 64 = true := pmIn_nI (by omega) (by omega)
      rw [if_neg (by rw [hs]; decide), ei, if_pos pi, if_pos pi, nI_clamp (by omega)]
      obtain ⟨σ2, s1, s2, s3⟩ := ih (k + 1) n (mput (mput σ1 (p + 3) (16 * q + 4 * k + t) A) (p + 4) (16 * q + 4 * k + t) E) (by omega) (by omega) (fun c a b c1 c2 => by rw [mrow_ne c2, mrow_ne c1]; exact hf c a b c1 c2)
      refine ⟨σ2, s1, s2, fun w hw => ?_⟩
      obtain ⟨r1, r2⟩ := s3 w hw
      by_cases hwk : w = 16 * q + 4 * k + t
      · have r3 := r2 (fun z => by omega)
        rw [hwk, mput_ne (by omega), mput_eq, mput_eq] at r3
        have hd : w / 16 = q ∧ w % 4 = t ∧ w / 4 % 4 = k := by omega
        refine ⟨fun _ => by rw [hwk]; exact r3, fun z => absurd ⟨hd.1, hd.2.1, by omega, ?_⟩ z⟩
        rw [hd.2.2]
        exact hs
      · have e : (w / 16 = q ∧ w % 4 = t ∧ k + 1 ≤ w / 4 % 4 ∧ inSc σ p (w / 4 % 4)) ↔ (w / 16 = q ∧ w % 4 = t ∧ k ≤ w / 4 % 4 ∧ inSc σ p (w / 4 % 4)) := by
          constructor
          · rintro ⟨a, b, c, d⟩
            exact ⟨a, b, by omega, d⟩
          · rintro ⟨a, b, c, d⟩
            exact ⟨a, b, by omega, d⟩
        rw [← e]
        refine ⟨r1, fun z => ?_⟩
        have r3 := r2 z
        rw [mput_ne (by omega), mput_ne (by omega), mput_ne (by omega), mput_ne (by omega)] at r3
        exact r3
/-- word w of both caches is right -/
def TW (σ : Mem) (p : Nat) (cs : List (Den × Bool)) (w : Nat) (x y : Int32) : Prop := ∀ j, j < 32 → tb x j = decide (vp (σ p 4) (σ p 5) (σ p 6) cs σ (32 * w + j) = 1) ∧ tb y j = decide (vp (σ p 4) (σ p 5) (σ p 6) cs σ (32 * w + j) = 2)
def SvI (σ : Mem) (p : Nat) (cs : List (Den × Bool)) (u : Nat) (σ1 : Mem) : Prop := ∀ w, w < 64 → (4 * (w / 16) + w % 4 < u → TW σ p cs w (σ1 (p + 3) w) (σ1 (p + 4) w)) ∧ (u ≤ 4 * (w / 16) + w % 4 → σ1 (p + 3) w = 0 ∧ σ1 (p + 4) w = 0)
theorem TW_0 {σ : Mem} {p w : Nat} {cs : List (Den × Bool)} (h : ∀ j, j < 32 → vp (σ p 4) (σ p 5) (σ p 6) cs σ (32 * w + j) = 0) : TW σ p cs w 0 0 := fun j hj => by
  rw [h j hj, tb_0]
  exact ⟨rfl, rfl⟩
theorem X_step {σ σ1 : Mem} {p q t : Nat} {cs : List (Den × Bool)} (h : PolC σ p cs) (hq : q < 4) (ht : t < 4) (hf : FS p σ σ1) (hI : SvI σ p cs (4 * q + t) σ1) : ∃ z, Ju_covers p (nI q) (nI t) σ1 = some z ∧ ((z = 0 ∧ SvI σ p cs (4 * q + t + 1) σ1) ∨ (¬ z = 0 ∧ ∃ σ2, Ju_surveyPair p (nI q) (nI t) σ1 = some σ2 ∧ FS p σ σ2 ∧ SvI σ p cs (4 * q + t + 1) σ2)) := by
  have hp := h.1
  have hb := po_ne hp
  have cv := X_cov (σ := σ1) (p := p) hq ht
  rw [FS_p hp hf, hf 5 (by omega) (by omega) (by omega) (by omega), hf 9 (by omega) (by omega) (by omega) (by omega)] at cv
  refine ⟨_, cv, ?_⟩
  by_cases c1 : Ju_isInScope (σ p 4) (nI q) (σ 5 q) = 1 ∧ Ju_isInScope (σ p 6) (nI t) (σ 9 t) = 1
  · rw [if_pos c1]
    refine Or.inr ⟨by decide, ?_⟩
    obtain ⟨A, E, σ2, s1, s2, s3, s4⟩ := X_b9 h hq ht 32 0 2100 0 0 σ1 (by omega) (by omega) hf (fun j hj => by rw [tb_0, decide_eq_false (Nat.not_lt_zero j), Bool.false_and]) (fun j hj => by rw [tb_0, decide_eq_false (Nat.not_lt_zero j), Bool.false_and])
    obtain ⟨σ3, r1, r2, r3⟩ := X_b148 (σ := σ) (A := A) (E := E) hp hq ht 4 0 2100 σ2 (by omega) (by omega) (FS_Fx hf s2)
    refine ⟨σ3, s1.trans r1, r2, fun w hw => ?_⟩
    obtain ⟨r4, r5⟩ := r3 w hw
    have k3 := s2.1 (p + 3) (by omega) (by omega)
    have k4 := s2.1 (p + 4) (by omega) (by omega)
    rw [k3, k4] at r5
    by_cases hwt : w / 16 = q ∧ w % 4 = t
    · refine ⟨fun _ => ?_, fun z => by omega⟩
      by_cases hs : inSc σ p (w / 4 % 4)
      · obtain ⟨a1, a2⟩ := r4 ⟨hwt.1, hwt.2, Nat.zero_le _, hs⟩
        rw [a1, a2]
        intro j hj
        have ev : vp (σ p 4) (σ p 5) (σ p 6) cs σ (32 * w + j) = vd cs σ (512 * q + 32 * t + j) := by
          unfold vp
          rw [show (32 * w + j) / 512 = q by omega, show (32 * w + j) / 32 % 4 = t by omega, show (32 * w + j) / 128 % 4 = w / 4 % 4 by omega, if_pos ⟨c1.1, c1.2, hs⟩]
          exact h.2.2.2.2 σ _ _ h.2.1 (by omega) (by omega) (by omega) (by omega) (by rw [show (32 * w + j) % 32 = j by omega, show (512 * q + 32 * t + j) % 32 = j by omega])
        rw [ev]
        exact ⟨s3 j hj, s4 j hj⟩
      · obtain ⟨a1, a2⟩ := r5 (fun z => hs z.2.2.2)
        obtain ⟨b1, b2⟩ := (hI w hw).2 (by omega)
        rw [a1, a2, b1, b2]
        refine TW_0 (fun j hj => ?_)
        unfold vp
        rw [show (32 * w + j) / 128 % 4 = w / 4 % 4 by omega]
        exact if_neg (fun z => hs z.2.2)
    · obtain ⟨a1, a2⟩ := r5 (fun z => hwt ⟨z.1, z.2.1⟩)
      rw [a1, a2]
      exact ⟨fun z => (hI w hw).1 (by omega), fun z => (hI w hw).2 (by omega)⟩
  · rw [if_neg c1]
    refine Or.inl ⟨rfl, fun w hw => ?_⟩
    by_cases hwt : w / 16 = q ∧ w % 4 = t
    · refine ⟨fun _ => ?_, fun z => by omega⟩
      obtain ⟨b1, b2⟩ := (hI w hw).2 (by omega)
      rw [b1, b2]
      refine TW_0 (fun j hj => ?_)
      unfold vp
      rw [show (32 * w + j) / 512 = q by omega, show (32 * w + j) / 32 % 4 = t by omega]
      exact if_neg (fun z => c1 ⟨z.1, z.2.1⟩)
    · exact ⟨fun z => (hI w hw).1 (by omega), fun z => (hI w hw).2 (by omega)⟩
theorem X_b63 {σ : Mem} {p q : Nat} {cs : List (Den × Bool)} {k : Nat → Int32 → Mem → Option Mem} (h : PolC σ p cs) (hq : q < 4) : ∀ (d t n : Nat) (σ1 : Mem), t + d = 4 → d < n → FS p σ σ1 → SvI σ p cs (4 * q + t) σ1 →
    ∃ σ2, Ju_survey_b63 k n p (nI q) (nI t) σ1 = k p (nI (q + 1)) σ2 ∧ FS p σ σ2 ∧ SvI σ p cs (4 * (q + 1)) σ2 := by
  intro d
  induction d with
  | zero =>
    intro t n σ1 ht hn hf hI
    obtain ⟨n, rfl⟩ : ∃ m, n = m + 1 := ⟨n - 1, by omega⟩
    obtain rfl : t = 4 := by omega
    rw [Ju_survey_b63, if_pos (by decide), nI_1]
    exact ⟨σ1, rfl, hf, hI⟩
  | succ d ih =>
    intro t n σ1 ht hn hf hI
    obtain ⟨n, rfl⟩ : ∃ m, n = m + 1 := ⟨n - 1, by omega⟩
    have n4 : ¬ (4 : Int32) ≤ nI t := nI_ge (a := t) (b := 4) (by omega) (by omega)
    obtain ⟨z, c1, c2⟩ := X_step h hq (show t < 4 by omega) hf hI
    rw [Ju_survey_b63, if_neg n4, c1, Option.bind_some, nI_1]
    rcases c2 with ⟨z0, hI2⟩ | ⟨z1, σ2, s1, s2, hI2⟩
    · rw [if_pos z0]
      exact ih (t + 1) n σ1 (by omega) (by omega) hf hI2
    · rw [if_neg z1, s1, Option.bind_some]
      exact ih (t + 1) n σ2 (by omega) (by omega) s2 hI2
theorem X_b56 {σ : Mem} {p : Nat} {cs : List (Den × Bool)} (h : PolC σ p cs) : ∀ (d q n : Nat) (σ1 : Mem), q + d = 4 → d < n → FS p σ σ1 → SvI σ p cs (4 * q) σ1 →
    ∃ σ2, Ju_survey_b56 n p (nI q) σ1 = some σ2 ∧ FS p σ σ2 ∧ SvI σ p cs 16 σ2 := by
  intro d
  induction d with
  | zero =>
    intro q n σ1 hq hn hf hI
    obtain ⟨n, rfl⟩ : ∃ m, n = m + 1 := ⟨n - 1, by omega⟩
    obtain rfl : q = 4 := by omega
    rw [Ju_survey_b56, if_pos (by decide)]
    exact ⟨σ1, rfl, hf, hI⟩
  | succ d ih =>
    intro q n σ1 hq hn hf hI
    obtain ⟨n, rfl⟩ : ∃ m, n = m + 1 := ⟨n - 1, by omega⟩
    have n4 : ¬ (4 : Int32) ≤ nI q := nI_ge (a := q) (b := 4) (by omega) (by omega)
    obtain ⟨σ2, s1, s2, s3⟩ := X_b63 (k := Ju_survey_b56 n) h (show q < 4 by omega) 4 0 2100 σ1 (by omega) (by omega) hf hI
    rw [Ju_survey_b56, if_neg n4]
    obtain ⟨σ3, r1, r2, r3⟩ := ih (q + 1) n σ2 (by omega) (by omega) s2 s3
    exact ⟨σ3, s1.trans r1, r2, r3⟩
theorem X_b28 {σ : Mem} {p : Nat} {cs : List (Den × Bool)} (h : PolC σ p cs) : ∀ (d k n : Nat) (σ1 : Mem), k + d = 64 → d < n → FS p σ σ1 → (∀ w, w < k → σ1 (p + 3) w = 0 ∧ σ1 (p + 4) w = 0) →
    ∃ σ2, Ju_survey_b28 n p (nI k) σ1 = some σ2 ∧ FS p σ σ2 ∧ SvI σ p cs 16 σ2 := by
  intro d
  induction d with
  | zero =>
    intro k n σ1 hk hn hf hI
    obtain ⟨n, rfl⟩ : ∃ m, n = m + 1 := ⟨n - 1, by omega⟩
    obtain rfl : k = 64 := by omega
    rw [Ju_survey_b28, if_pos (by decide)]
    exact X_b56 h 4 0 2100 σ1 (by omega) (by omega) hf (fun w hw => ⟨fun z => by omega, fun _ => hI w hw⟩)
  | succ d ih =>
    intro k n σ1 hk hn hf hI
    obtain ⟨n, rfl⟩ : ∃ m, n = m + 1 := ⟨n - 1, by omega⟩
    have n4 : ¬ (64 : Int32) ≤ nI k := nI_ge (a := k) (b := 64) (by omega) (by omega)
    have pi : pmIn (nI k) 64 = true := pmIn_nI (by omega) (by omega)
    rw [Ju_survey_b28, if_neg n4, if_pos pi, if_pos pi, nI_clamp (by omega), nI_1]
    refine ih (k + 1) n _ (by omega) (by omega) (fun c a b c1 c2 => by rw [mrow_ne c2, mrow_ne c1]; exact hf c a b c1 c2) (fun w hw => ?_)
    by_cases e : w = k
    · subst e
      rw [mput_ne (by omega), mput_eq, mput_eq]
      exact ⟨rfl, rfl⟩
    · rw [mput_ne (by omega), mput_ne (by omega), mput_ne (by omega), mput_ne (by omega)]
      exact hI w (by omega)
theorem X_survey {σ : Mem} {p : Nat} {cs : List (Den × Bool)} (h : PolC σ p cs) (hc : σ p 12 = σ 1 5 → CacheOk σ p cs) : ∃ σ2, Ju_survey p σ = some σ2 ∧ FS p (mput σ p 12 (σ 1 5)) σ2 ∧ CacheOk σ2 p cs := by
  have hp := h.1
  have hb := po_ne hp
  unfold Ju_survey
  by_cases e : σ p 12 = σ 1 5
  · rw [if_neg (fun z => z e)]
    refine ⟨σ, rfl, fun c _ _ _ _ => ?_, hc e⟩
    rw [← e, mput_same]
  · rw [if_pos e]
    have wx : WldX σ (mput σ p 12 (σ 1 5)) := fun c a b => mrow_ne (by omega)
    have h2 : PolC (mput σ p 12 (σ 1 5)) p cs := by
      obtain ⟨-, h1, ⟨m, a1, a2, a3⟩, h3, h4⟩ := h
      refine ⟨hp, OkW_cg h1 wx, ⟨m, by rw [mput_ne (by omega)]; exact a1, a2, by rw [mrow_ne (by omega), mrow_ne (by omega)]; exact a3⟩, h3, by rw [mput_ne (by omega)]; exact h4⟩
    obtain ⟨σ2, s1, s2, s3⟩ := X_b28 h2 64 0 2100 _ (by omega) (by omega) (fun _ _ _ _ _ => rfl) (fun w hw => absurd hw (Nat.not_lt_zero w))
    refine ⟨σ2, s1, s2, fun r hr => ?_⟩
    have t := (s3 (r / 32) (by omega)).1 (by omega) (r % 32) (by omega)
    rw [show 32 * (r / 32) + r % 32 = r by omega] at t
    have ev : vp (σ2 p 4) (σ2 p 5) (σ2 p 6) cs σ2 r = vp ((mput σ p 12 (σ 1 5)) p 4) ((mput σ p 12 (σ 1 5)) p 5) ((mput σ p 12 (σ 1 5)) p 6) cs (mput σ p 12 (σ 1 5)) r := by
      rw [FS_p hp s2]
      exact vp_w h.2.2.2.1 (FS_W hp s2) r
    rw [ev, tb_at (by omega), tb_at (by omega), t.1, t.2, decide_eq_true_eq, decide_eq_true_eq]
    exact ⟨Iff.rfl, Iff.rfl⟩
