theorem fin_ch {α : Type} {P : Nat → α → Prop} (d : α) : ∀ (c : Nat), (∀ i, i < c → ∃ x, P i x) → ∃ f : Nat → α, ∀ i, i < c → P i (f i)
  | 0, _ => ⟨fun _ => d, fun i hi => absurd hi (Nat.not_lt_zero i)⟩
  | c + 1, h => by
    obtain ⟨f, hf⟩ := fin_ch d c (fun i hi => h i (by omega))
    obtain ⟨x, hx⟩ := h c (by omega)
    refine ⟨fun i => if i = c then x else f i, fun i hi => ?_⟩
    show P i (if i = c then x else f i)
    by_cases e : i = c
    · rw [if_pos e, e]
      exact hx
    · rw [if_neg e]
      exact hf i (by omega)
/-- the verdicts V of a set's c policies: both sides give them from here on -/
def Vd (σ τ : Mem) (s c : Nat) (V : Nat → Nat → Int32) : Prop :=
  (σ (setC s) 1 = nI c ∧ τ 6 s = nI c ∧ c ≤ 8) ∧
  (∀ i, i < c → isPo (ix (σ (setC s + 1) i)) ∧ τ 7 (8 * s + i) = σ (ix (σ (setC s + 1) i)) 0 ∧ (σ (ix (σ (setC s + 1) i)) 0 = 0 ∨ σ (ix (σ (setC s + 1) i)) 0 = 1)) ∧
  (∀ i r, i < c → r < 2048 → V i r = 0 ∨ V i r = 1 ∨ V i r = 2) ∧
  (∀ i r σ1, i < c → r < 2048 → Fx1 σ σ1 → ∃ σ2, Ju_verdict (ix (σ (setC s + 1) i)) (nI r) σ1 = some (V i r, σ2) ∧ Fx1 σ σ2) ∧
  (∀ i r τ1, i < c → r < 2048 → FxM τ τ1 → ∃ τ2, Mo_work (nI (8 * s + i)) (nI r) τ1 = some (vM (V i r), τ2) ∧ FxM τ τ2)
theorem FxM_tr' {a b c : Mem} (h1 : FxM a b) (h2 : FxM b c) : FxM a c := fun q x => (h2 q x).trans (h1 q x)
theorem Fx1_W {σ σ1 : Mem} (h : Fx1 σ σ1) : WldX σ σ1 := fun c a b => h.1 c (by omega) (by omega)
theorem OkW_cg {σ σ1 : Mem} (h : OkW σ) (hw : WldX σ σ1) : OkW σ1 := by
  obtain ⟨τ, h⟩ := h
  exact ⟨τ, RelW_cg h hw (fun _ _ _ => rfl)⟩
/-- the verdicts, by the conditions of each policy -/
def vC (σ : Mem) (s : Nat) (C : Nat → List (Den × Bool)) (i r : Nat) : Int32 := vp (σ (ix (σ (setC s + 1) i)) 4) (σ (ix (σ (setC s + 1) i)) 5) (σ (ix (σ (setC s + 1) i)) 6) (C i) σ r
theorem mk_Vd {σ τ : Mem} {n s : Nat} (h : Rel σ τ n) (hs : s < 2) : ∃ c V, Vd σ τ s c V := by
  obtain ⟨h1, h2, M, h3, h4, h5⟩ := h
  obtain ⟨r1, c, hc, e1, e2, hp⟩ := h5 s hs
  obtain ⟨C, hC⟩ := fin_ch (P := fun i cs => PolX σ (ix (σ (setC s + 1) i)) cs ∧ PolM τ (8 * s + i) cs ∧ DepW cs ∧ PolS σ τ (ix (σ (setC s + 1) i)) (8 * s + i)) [] c (fun i hi => by
    obtain ⟨cs, a1, a2, a3, a4, a5, a6, a7⟩ := hp i hi
    exact ⟨cs, a1, a2, a3, a5⟩)
  have ho : OkW σ := ⟨τ, h1⟩
  refine ⟨c, vC σ s C, ⟨e1, e2, hc⟩, fun i hi => ?_, fun i r hi hr => vp_012 _ _ _ _ _ _, fun i r σ1 hi hr hf => ?_, fun i r τ1 hi hr hf => ?_⟩
  · obtain ⟨-, -, -, -, -, q3, -, -⟩ := hC i hi
    exact ⟨(r1.1 i (by omega)).1, q3.1, q3.2⟩
  · obtain ⟨⟨m, m1, m2, m3⟩, -, hd, -⟩ := hC i hi
    have hq := (r1.1 i (by omega)).1
    have hb := po_ne hq
    unfold vC
    generalize ix (σ (setC s + 1) i) = p at hq hb m1 m3
    have f0 := hf.1 p (by omega) (by omega)
    have f1 := hf.1 (p + 1) (by omega) (by omega)
    have f2 := hf.1 (p + 2) (by omega) (by omega)
    rw [← f0] at m1
    rw [← f1, ← f2] at m3
    obtain ⟨σ2, s1, s2⟩ := X_verdict (r := r) hq hr (OkW_cg ho (Fx1_W hf)) m1 m2 m3
    refine ⟨σ2, ?_, Fx1_tr hf s2⟩
    rw [s1, vp_w hd (Fx1_W hf), f0]
  · obtain ⟨-, ⟨m, m1, m2, m3⟩, -, ⟨q1, q2, -, -, -⟩⟩ := hC i hi
    have fm : ∀ c, c ≠ 41 → τ1 c = τ c := hf
    have hw1 : RelW σ τ1 := RelW_cg h1 (fun _ _ _ => rfl) (fun c a b => fm c (by omega))
    rw [← fm 11 (by omega)] at m1
    rw [← fm 12 (by omega), ← fm 13 (by omega)] at m3
    obtain ⟨τ2, t1, t2⟩ := M_work (σ := σ) (p := 8 * s + i) (r := r) (by omega) hr hw1 m1 m2 m3 (by rw [fm 8 (by omega)]; exact q2.1) (by rw [fm 8 (by omega)]; exact q2.2.1) (by rw [fm 8 (by omega)]; exact q2.2.2) q1.1 q1.2.1 q1.2.2
    exact ⟨τ2, t1, FxM_tr' hf t2⟩
/-- is there, among the first k policies without number z, one that applies, with this mark -/
def anyV (V : Nat → Nat → Int32) (P : Nat → Int32) (y : Int32) (z r : Nat) : Nat → Bool
  | 0 => false
  | k + 1 => anyV V P y z r k || (decide (k ≠ z) && (decide (V k r = 1) && decide (P k = y)))
/-- allowed, the policy z left out -/
def alw (V : Nat → Nat → Int32) (P : Nat → Int32) (c z r : Nat) : Bool := anyV V P 1 z r c && !(anyV V P 0 z r c)
def b2i (b : Bool) : Int32 := if b = true then 1 else 0
theorem b2i_t : b2i true = 1 := rfl
theorem b2i_f : b2i false = 0 := rfl
theorem anyV_up {V : Nat → Nat → Int32} {P : Nat → Int32} {y : Int32} {z r : Nat} : ∀ (d k : Nat), anyV V P y z r k = true → anyV V P y z r (k + d) = true
  | 0, k, h => h
  | d + 1, k, h => by
    show (anyV V P y z r (k + d) || _) = true
    rw [anyV_up d k h, Bool.true_or]
def pmP (σ : Mem) (s i : Nat) : Int32 := σ (ix (σ (setC s + 1) i)) 0
theorem X_alw {σ τ : Mem} {s c r : Nat} {V : Nat → Nat → Int32} (hs : s < 2) (h : Vd σ τ s c V) (hr : r < 2048) : ∀ (d i n : Nat) (σ1 : Mem), i + d = c → d < n → Fx1 σ σ1 → anyV V (pmP σ s) 0 9 r i = false →
    ∃ σ2, Se_isAllowed_b5 n (setC s) (nI r) (b2i (anyV V (pmP σ s) 1 9 r i)) (nI i) σ1 = some (b2i (alw V (pmP σ s) c 9 r), σ2) ∧ Fx1 σ σ2 := by
  obtain ⟨⟨e1, e2, hc⟩, hi0, h3, hX, hM⟩ := h
  have sv := setC_v hs
  intro d
  induction d with
  | zero =>
    intro i n σ1 hi hn hf hz
    obtain ⟨n, rfl⟩ : ∃ m, n = m + 1 := ⟨n - 1, by omega⟩
    unfold Se_isAllowed_b5
    have hi : i = c := by omega
    subst hi
    rw [hf.1 (setC s) (by omega) (by omega), e1, if_pos (nI_le (Nat.le_refl _) (by omega))]
    refine ⟨σ1, ?_, hf⟩
    unfold alw
    rw [hz]
    cases anyV V (pmP σ s) 1 9 r i <;> rfl
  | succ d ih =>
    intro i n σ1 hi hn hf hz
    obtain ⟨n, rfl⟩ : ∃ m, n = m + 1 := ⟨n - 1, by omega⟩
    unfold Se_isAllowed_b5
    have f1 := hf.1 (setC s + 1) (by omega) (by omega)
    obtain ⟨p1, p2, p3⟩ := hi0 i (by omega)
    obtain ⟨σ2, x1, x2⟩ := hX i r σ1 (by omega) hr hf
    have g1 := x2.1 (setC s + 1) (by omega) (by omega)
    have pb := po_ne p1
    have g2 := x2.1 (ix (σ (setC s + 1) i)) (by omega) (by omega)
    rw [hf.1 (setC s) (by omega) (by omega), e1, if_neg (nI_ge (a := i) (b := c) (by omega) (by omega)), if_pos (pmIn_nI (g := i) (by omega) (by omega)), nI_clamp (by omega), f1, if_pos p1, x1, Option.bind_some]
    show ∃ σ3, (if ¬ V i r = 1 then _ else _) = _ ∧ _
    have nz : ∀ y, anyV V (pmP σ s) y 9 r (i + 1) = (anyV V (pmP σ s) y 9 r i || (decide (V i r = 1) && decide (pmP σ s i = y))) := fun y => by
      show (anyV V (pmP σ s) y 9 r i || (decide (i ≠ 9) && _)) = _
      rw [decide_eq_true (show i ≠ 9 by omega), Bool.true_and]
    by_cases v1 : V i r = 1
    · rw [if_neg (fun q : ¬ V i r = 1 => q v1)]
      dsimp only
      rw [if_pos (pmIn_nI (g := i) (by omega) (by omega)), if_pos (show isPo (ix (σ2 (setC s + 1) i)) by rw [g1]; exact p1)]
      show ∃ σ3, (if ¬ σ2 (ix (σ2 (setC s + 1) i)) 0 = 0 then _ else _) = _ ∧ _
      rw [g1, g2]
      rcases p3 with p3 | p3
      · rw [p3, if_neg (fun q => q rfl)]
        refine ⟨σ2, ?_, x2⟩
        have ff : anyV V (pmP σ s) 0 9 r (i + 1) = true := by
          rw [nz, decide_eq_true v1, decide_eq_true (show pmP σ s i = 0 from p3), Bool.and_self, Bool.or_true]
        have := anyV_up d (i + 1) ff
        rw [show i + 1 + d = c by omega] at this
        unfold alw
        rw [this, Bool.not_true, Bool.and_false]
        rfl
      · rw [p3, if_pos (by decide), nI_1]
        have a1 : anyV V (pmP σ s) 1 9 r (i + 1) = true := by
          rw [nz, decide_eq_true v1, decide_eq_true (show pmP σ s i = 1 from p3), Bool.and_self, Bool.or_true]
        have a0 : anyV V (pmP σ s) 0 9 r (i + 1) = false := by
          rw [nz, hz, decide_eq_false (show ¬ pmP σ s i = 0 by rw [show pmP σ s i = 1 from p3]; decide), Bool.and_false, Bool.or_false]
        have := ih (i + 1) n σ2 (by omega) (by omega) x2 a0
        rw [a1] at this
        exact this
    · rw [if_pos v1, nI_1]
      have aa : ∀ y, anyV V (pmP σ s) y 9 r (i + 1) = anyV V (pmP σ s) y 9 r i := fun y => by
        rw [nz, decide_eq_false v1, Bool.false_and, Bool.or_false]
      have := ih (i + 1) n σ2 (by omega) (by omega) x2 (by rw [aa]; exact hz)
      rw [aa] at this
      exact this
theorem X_all {σ τ : Mem} {s c r : Nat} {V : Nat → Nat → Int32} (hs : s < 2) (h : Vd σ τ s c V) (hr : r < 2048) : ∃ σ2, Se_isAllowed (setC s) (nI r) σ = some (b2i (alw V (pmP σ s) c 9 r), σ2) ∧ Fx1 σ σ2 :=
  X_alw hs h hr c 0 2100 σ (by omega) (by have := h.1.2.2; omega) (Fx1_rf σ) rfl
theorem vM_1 {x : Int32} (h : x = 0 ∨ x = 1 ∨ x = 2) : (vM x = 1 ↔ x = 1) ∧ (vM x = -1 ↔ x = 2) := by
  rcases h with rfl | rfl | rfl <;> decide
/-- -1 or a number that is no place: nothing is left out -/
def skp (v : Int32) (z : Nat) : Prop := ∀ i, i < 9 → (nI i = v ↔ i = z)
theorem skp_no : skp (-1) 9 := fun i hi => ⟨fun q => absurd (show nI i < 0 by rw [q]; decide) (nI_pos (by omega)), fun q => by omega⟩
theorem skp_n {z : Nat} (hz : z < 9) : skp (nI z) z := fun i hi => nI_eq (by omega) (by omega)
theorem M_b67 {k : Int32 → Int32 → Int32 → Int32 → Int32 → Int32 → Mem → Option (Int32 × Mem)} {s i : Nat} {v2 v3 s0 y : Int32} {b : Bool} {τ : Mem} (hs : s < 2) (hi : i < 8) (h7 : τ 7 (8 * s + i) = y) (hy : y = 0 ∨ y = 1) : Mo_allowed_b67 k (nI s) v2 v3 (b2i b) (nI i) s0 τ = k (nI s) v2 v3 s0 (b2i (b || decide (y = 0))) (nI (i + 1)) τ := by
  unfold Mo_allowed_b67
  have e : (8 : Int32) * nI s + nI i = nI (8 * s + i) := by rw [show (8 : Int32) = nI 8 from rfl, pk_mul, nI_add]
  rw [e, if_pos (pmIn_nI (by omega) (by omega)), nI_clamp (by omega), h7, nI_1]
  cases b
  · rw [if_neg (fun q => q rfl)]
    rcases hy with rfl | rfl <;> rfl
  · rw [if_pos (by decide)]
    rfl
theorem M_alw {σ τ : Mem} {s c r z : Nat} {v : Int32} {V : Nat → Nat → Int32} (hs : s < 2) (h : Vd σ τ s c V) (hr : r < 2048) (hv : skp v z) : ∀ (d i n : Nat) (τ1 : Mem), i + d = c → d < n → FxM τ τ1 →
    ∃ τ2, Mo_allowed_b9 n (nI s) (nI r) v (b2i (anyV V (pmP σ s) 1 z r i)) (b2i (anyV V (pmP σ s) 0 z r i)) (nI i) τ1 = some (b2i (alw V (pmP σ s) c z r), τ2) ∧ FxM τ τ2 := by
  obtain ⟨⟨e1, e2, hc⟩, hi0, h3, hX, hM⟩ := h
  intro d
  induction d with
  | zero =>
    intro i n τ1 hi hn hf
    obtain ⟨n, rfl⟩ : ∃ m, n = m + 1 := ⟨n - 1, by omega⟩
    unfold Mo_allowed_b9
    have hi : i = c := by omega
    subst hi
    rw [if_pos (pmIn_nI hs (by omega)), nI_clamp (by omega), hf 6 (by omega), e2, if_pos (nI_le (Nat.le_refl _) (by omega))]
    unfold alw
    generalize anyV V (pmP σ s) 1 z r i = a
    generalize anyV V (pmP σ s) 0 z r i = b
    cases a <;> cases b <;> exact ⟨τ1, rfl, hf⟩
  | succ d ih =>
    intro i n τ1 hi hn hf
    obtain ⟨n, rfl⟩ : ∃ m, n = m + 1 := ⟨n - 1, by omega⟩
    unfold Mo_allowed_b9
    have e : (8 : Int32) * nI s + nI i = nI (8 * s + i) := by rw [show (8 : Int32) = nI 8 from rfl, pk_mul, nI_add]
    rw [if_pos (pmIn_nI hs (by omega)), nI_clamp (by omega), hf 6 (by omega), e2, if_neg (nI_ge (a := i) (b := c) (by omega) (by omega)), e]
    obtain ⟨p1, p2, p3⟩ := hi0 i (by omega)
    by_cases hz : i = z
    · rw [if_pos ((hv i (by omega)).mpr hz), nI_1]
      have aa : ∀ y, anyV V (pmP σ s) y z r (i + 1) = anyV V (pmP σ s) y z r i := fun y => by
        show (anyV V (pmP σ s) y z r i || (decide (i ≠ z) && _)) = _
        rw [decide_eq_false (fun q : i ≠ z => q hz), Bool.false_and, Bool.or_false]
      have := ih (i + 1) n τ1 (by omega) (by omega) hf
      rw [aa, aa] at this
      exact this
    · rw [if_neg (fun q => hz ((hv i (by omega)).mp q))]
      obtain ⟨τ2, x1, x2⟩ := hM i r τ1 (by omega) hr hf
      rw [x1, Option.bind_some]
      show ∃ τ3, (if ¬ vM (V i r) = 1 then _ else _) = _ ∧ _
      have nz : ∀ y, anyV V (pmP σ s) y z r (i + 1) = (anyV V (pmP σ s) y z r i || (decide (V i r = 1) && decide (pmP σ s i = y))) := fun y => by
        show (anyV V (pmP σ s) y z r i || (decide (i ≠ z) && _)) = _
        rw [decide_eq_true (show i ≠ z from hz), Bool.true_and]
      have vm := (vM_1 (h3 i r (by omega) hr)).1
      by_cases v1 : V i r = 1
      · rw [if_neg (fun q : ¬ vM (V i r) = 1 => q (vm.mpr v1))]
        have g7 : τ2 7 (8 * s + i) = pmP σ s i := by rw [x2 7 (by omega)]; exact p2
        have goal : ∀ s0 : Int32, s0 = b2i (anyV V (pmP σ s) 1 z r i || decide (pmP σ s i = 1)) → ∃ τ3, Mo_allowed_b67 (Mo_allowed_b9 n) (nI s) (nI r) v (b2i (anyV V (pmP σ s) 0 z r i)) (nI i) s0 τ2 = some (b2i (alw V (pmP σ s) c z r), τ3) ∧ FxM τ τ3 := fun s0 hs0 => by
          rw [M_b67 hs (by omega) g7 p3, hs0]
          have := ih (i + 1) n τ2 (by omega) (by omega) x2
          rw [nz, nz, decide_eq_true v1, Bool.true_and, Bool.true_and] at this
          exact this
        unfold Mo_allowed_b62
        rw [if_pos (pmIn_nI (g := 8 * s + i) (by omega) (by omega)), nI_clamp (by omega)]
        show ∃ τ3, (if ¬ b2i (anyV V (pmP σ s) 1 z r i) = 0 then _ else if τ2 7 (8 * s + i) = 0 then _ else _) = _ ∧ _
        rw [g7]
        cases ha : anyV V (pmP σ s) 1 z r i
        · rw [ha] at goal
          rw [if_neg (fun q => q rfl)]
          rcases p3 with p3 | p3
          · rw [if_pos (show pmP σ s i = 0 from p3)]
            exact goal 0 (by rw [decide_eq_false (show ¬ pmP σ s i = 1 by rw [show pmP σ s i = 0 from p3]; decide)]; rfl)
          · rw [if_neg (show ¬ pmP σ s i = 0 by rw [show pmP σ s i = 1 from p3]; decide)]
            exact goal 1 (by rw [decide_eq_true (show pmP σ s i = 1 from p3)]; rfl)
        · rw [ha] at goal
          rw [if_pos (by decide)]
          exact goal 1 (by rw [Bool.true_or]; rfl)
      · rw [if_pos (fun q => v1 (vm.mp q)), nI_1]
        have aa : ∀ y, anyV V (pmP σ s) y z r (i + 1) = anyV V (pmP σ s) y z r i := fun y => by
          rw [nz, decide_eq_false v1, Bool.false_and, Bool.or_false]
        have := ih (i + 1) n τ2 (by omega) (by omega) x2
        rw [aa, aa] at this
        exact this
theorem Vd_M {σ τ τ1 : Mem} {s c : Nat} {V : Nat → Nat → Int32} (h : Vd σ τ s c V) (hf : FxM τ τ1) : Vd σ τ1 s c V := by
  obtain ⟨⟨e1, e2, hc⟩, hi0, h3, hX, hM⟩ := h
  have f : ∀ c, c ≠ 41 → τ1 c = τ c := hf
  refine ⟨⟨e1, by rw [f 6 (by omega)]; exact e2, hc⟩, fun i hi => by rw [f 7 (by omega)]; exact hi0 i hi, h3, hX, fun i r τ2 hi hr h2 => ?_⟩
  obtain ⟨τ3, a, b⟩ := hM i r τ2 hi hr (FxM_tr' hf h2)
  exact ⟨τ3, a, fun c hc => (b c hc).trans (f c hc).symm⟩
theorem M_all {σ τ : Mem} {s c r z : Nat} {v : Int32} {V : Nat → Nat → Int32} (hs : s < 2) (h : Vd σ τ s c V) (hr : r < 2048) (hv : skp v z) : ∃ τ2, Mo_allowed (nI s) (nI r) v τ = some (b2i (alw V (pmP σ s) c z r), τ2) ∧ FxM τ τ2 :=
  M_alw hs h hr hv c 0 2100 τ (by omega) (by have := h.1.2.2; omega) (fun _ _ => rfl)
