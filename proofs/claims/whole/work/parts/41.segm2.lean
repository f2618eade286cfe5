def SegM (k w : Nat → Int32) (i j a : Nat) (e : Mem → Nat → Option Int32) : Prop := i ≤ j ∧ 1 ≤ a ∧ ∀ (p m r : Nat) (σw τw τ : Mem) (S : List Int32), r < 2048 → RelW σw τw → WldM τw τ → CodeM τ p m i j k w → StkM τ S → S.length + a ≤ 40 →
  (e σw r = none → ∃ τ1 f, f ≤ j - i ∧ (∀ n, Mo_work_b88 (n + f) (nI p) (nI r) (nI S.length) (nI i) τ = some (-1, τ1)) ∧ FxM τ τ1) ∧
  ∀ v, e σw r = some v → ∃ τ1 f, f ≤ j - i ∧ (∀ n, Mo_work_b88 (n + f) (nI p) (nI r) (nI S.length) (nI i) τ = Mo_work_b88 n (nI p) (nI r) (nI (S.length + 1)) (nI j) τ1) ∧ StkM τ1 (v :: S) ∧ FxM τ τ1
theorem SegM_at {k w : Nat → Int32} {i : Nat} {x y : Int32} (ha : isAtM (k i)) (hv : ∀ σw τw τ r, RelW σw τw → WldM τw τ → r < 2048 → ∃ v, Wo_valueOf x y (nI r) σw = some v ∧ Mo_valueOf (k i) (w i) (nI r) τ = some v ∧ (v = -1 ∨ 0 ≤ v)) : SegM k w i (i + 1) 1 (dAt x y) := by
  refine ⟨by omega, by omega, ?_⟩
  intro p m r σw τw τ S hr hw hW hC hS hl
  obtain ⟨v, v1, v2, v3⟩ := hv σw τw τ r hw hW hr
  have st := fun n => m_atom (n := n) (r := r) (S := S) hC (by omega) ha v2 (by omega)
  unfold dAt
  rw [v1]
  dsimp only
  by_cases e : v = -1
  · subst e
    refine ⟨fun _ => ⟨τ, 1, by omega, fun n => (st n).trans (if_neg (by decide)), FxM_rf τ⟩, fun v hv => ?_⟩
    rw [if_pos rfl] at hv
    cases hv
  · refine ⟨fun q => ?_, fun z hz => ?_⟩
    · rw [if_neg e] at q
      cases q
    · rw [if_neg e] at hz
      cases hz
      exact ⟨_, 1, by omega, fun n => (st n).trans (if_pos (v3.resolve_left e)), M_push v hS, FxM_put _ _ _⟩
theorem SegM_not {k w : Nat → Int32} {i j a : Nat} {e : Mem → Nat → Option Int32} (h : SegM k w i j a e) (hk : k j = 33) : SegM k w i (j + 1) a (dNot e) := by
  obtain ⟨hij, ha, h⟩ := h
  refine ⟨by omega, ha, ?_⟩
  intro p m r σw τw τ S hr hw hW hC hS hl
  obtain ⟨A, B⟩ := h p m r σw τw τ S hr hw hW (CodeM_sub hC (by omega) (by omega)) hS hl
  unfold dNot
  cases he : e σw r with
  | none =>
    obtain ⟨τ1, f, hf, s1, s2⟩ := A he
    refine ⟨fun _ => ⟨τ1, f, by omega, s1, s2⟩, fun v hv => ?_⟩
    cases hv
  | some x =>
    refine ⟨(fun q => (by cases q)), fun v hv => ?_⟩
    cases hv
    obtain ⟨τ1, f, hf, s1, s2, s3⟩ := B x he
    refine ⟨mput τ1 41 S.length (1 - x), f + 1, by omega, fun n => ?_, M_push _ (M_pop s2), FxM_tr s3 (FxM_put _ _ _)⟩
    rw [show n + (f + 1) = n + 1 + f by omega, s1, m_not (CodeM_sub (i1 := j) (j1 := j + 1) (CodeM_Fx hC s3) (by omega) (by omega)) (by omega) hk s2 (by omega)]
theorem SegM_bin {k w : Nat → Int32} {i j l a b : Nat} {e1 e2 : Mem → Nat → Option Int32} {c : Int32} (hc : isSg c) (h1 : SegM k w i j a e1) (h2 : SegM k w j l b e2) (hk : k l = c) : SegM k w i (l + 1) (a + b) (dBin c e1 e2) := by
  obtain ⟨hij, ha, h1⟩ := h1
  obtain ⟨hjl, hb, h2⟩ := h2
  refine ⟨by omega, by omega, ?_⟩
  intro p m r σw τw τ S hr hw hW hC hS hl
  obtain ⟨A, B⟩ := h1 p m r σw τw τ S hr hw hW (CodeM_sub hC (by omega) (by omega)) hS (by omega)
  unfold dBin
  cases he : e1 σw r with
  | none =>
    obtain ⟨τ1, f, hf, s1, s2⟩ := A he
    refine ⟨fun _ => ⟨τ1, f, by omega, s1, s2⟩, fun v hv => ?_⟩
    cases hv
  | some x =>
    obtain ⟨τ1, f, hf, s1, s2, s3⟩ := B x he
    have C1 := CodeM_Fx hC s3
    obtain ⟨A2, B2⟩ := h2 p m r σw τw τ1 (x :: S) hr hw (WldM_Fx hW s3) (CodeM_sub C1 (by omega) (by omega)) s2 (by rw [List.length_cons]; omega)
    cases hg : e2 σw r with
    | none =>
      obtain ⟨τ2, g, hg2, t1, t2⟩ := A2 hg
      refine ⟨fun _ => ⟨τ2, f + g, by omega, fun n => ?_, FxM_tr s3 t2⟩, fun v hv => ?_⟩
      · rw [show n + (f + g) = n + g + f by omega, s1]
        exact t1 n
      · cases hv
    | some y =>
      refine ⟨(fun q => (by cases q)), fun v hv => ?_⟩
      cases hv
      obtain ⟨τ2, g, hg2, t1, t2, t3⟩ := B2 y hg
      refine ⟨mput τ2 41 S.length (Mo_reckon c x y), f + g + 1, by omega, fun n => ?_, M_push _ (M_pop (M_pop t2)), FxM_tr s3 (FxM_tr t3 (FxM_put _ _ _))⟩
      have t1' := t1 (n + 1)
      rw [List.length_cons] at t1'
      rw [show n + (f + g + 1) = n + 1 + g + f by omega, s1, t1', m_bin (CodeM_sub (i1 := l) (j1 := l + 1) (CodeM_Fx C1 t3) (by omega) (by omega)) (by omega) hk hc t2 (by omega)]
theorem SegM_ch {k w : Nat → Int32} {i j l z a b d : Nat} {e1 e2 e3 : Mem → Nat → Option Int32} (h1 : SegM k w i j a e1) (hk : k j = 3) (hw0 : w j = nI (l + 1)) (h2 : SegM k w (j + 1) l b e2) (hk2 : k l = 4) (hw2 : w l = nI z) (h3 : SegM k w (l + 1) z d e3) : SegM k w i z (a + b + d) (dCh e1 e2 e3) := by
  obtain ⟨hij, ha, h1⟩ := h1
  obtain ⟨hjl, hb, h2⟩ := h2
  obtain ⟨hlz, hd, h3⟩ := h3
  refine ⟨by omega, by omega, ?_⟩
  intro p m r σw τw τ S hr hw hW hC hS hl
  obtain ⟨A, B⟩ := h1 p m r σw τw τ S hr hw hW (CodeM_sub hC (by omega) (by omega)) hS (by omega)
  unfold dCh
  cases he : e1 σw r with
  | none =>
    obtain ⟨τ1, f, hf, s1, s2⟩ := A he
    refine ⟨fun _ => ⟨τ1, f, by omega, s1, s2⟩, fun v hv => ?_⟩
    cases hv
  | some x =>
    obtain ⟨τ1, f, hf, s1, s2, s3⟩ := B x he
    have C1 := CodeM_Fx hC s3
    have st := fun n => m_take (n := n) (r := r) (CodeM_sub (i1 := j) (j1 := j + 1) C1 (by omega) (by omega)) (by omega) hk hw0 s2 (by omega)
    rw [Option.bind_some]
    by_cases hx : x = 0
    · rw [if_pos hx]
      obtain ⟨A3, B3⟩ := h3 p m r σw τw τ1 S hr hw (WldM_Fx hW s3) (CodeM_sub C1 (by omega) (by omega)) (M_pop s2) (by omega)
      refine ⟨fun q => ?_, fun v hv => ?_⟩
      · obtain ⟨τ2, g, hg, t1, t2⟩ := A3 q
        refine ⟨τ2, f + g + 1, by omega, fun n => ?_, FxM_tr s3 t2⟩
        rw [show n + (f + g + 1) = n + g + 1 + f by omega, s1, st, if_pos hx, t1]
      · obtain ⟨τ2, g, hg, t1, t2, t3⟩ := B3 v hv
        refine ⟨τ2, f + g + 1, by omega, fun n => ?_, t2, FxM_tr s3 t3⟩
        rw [show n + (f + g + 1) = n + g + 1 + f by omega, s1, st, if_pos hx, t1]
    · rw [if_neg hx]
      obtain ⟨A2, B2⟩ := h2 p m r σw τw τ1 S hr hw (WldM_Fx hW s3) (CodeM_sub C1 (by omega) (by omega)) (M_pop s2) (by omega)
      refine ⟨fun q => ?_, fun v hv => ?_⟩
      · obtain ⟨τ2, g, hg, t1, t2⟩ := A2 q
        refine ⟨τ2, f + g + 1, by omega, fun n => ?_, FxM_tr s3 t2⟩
        rw [show n + (f + g + 1) = n + g + 1 + f by omega, s1, st, if_neg hx, t1]
      · obtain ⟨τ2, g, hg, t1, t2, t3⟩ := B2 v hv
        refine ⟨τ2, f + g + 2, by omega, fun n => ?_, t2, FxM_tr s3 t3⟩
        rw [show n + (f + g + 2) = n + 1 + g + 1 + f by omega, s1, st, if_neg hx, t1, m_go (CodeM_sub (i1 := l) (j1 := l + 1) (CodeM_Fx C1 t3) (by omega) (by omega)) (by omega) hk2 hw2]
/-- the front of a chain of & (c = 1) or | (c = 2), all of whose jumps go to T -/
def ChM (c : Int32) (k w : Nat → Int32) (i j T a : Nat) (e : Mem → Nat → Option Int32) : Prop := i < j ∧ 1 ≤ a ∧ ∀ (p m r : Nat) (σw τw τ : Mem) (S : List Int32), r < 2048 → RelW σw τw → WldM τw τ → CodeM τ p m i j k w → StkM τ S → S.length + a ≤ 40 →
  (e σw r = none → ∃ τ1 f, f ≤ j - i ∧ (∀ n, Mo_work_b88 (n + f) (nI p) (nI r) (nI S.length) (nI i) τ = some (-1, τ1)) ∧ FxM τ τ1) ∧
  ∀ v, e σw r = some v → ∃ τ1 f, f ≤ j - i ∧ FxM τ τ1 ∧
    (((v = 0 ↔ c = 1) ∧ (∀ n, Mo_work_b88 (n + f) (nI p) (nI r) (nI S.length) (nI i) τ = Mo_work_b88 n (nI p) (nI r) (nI (S.length + 1)) (nI T) τ1) ∧ StkM τ1 (v :: S)) ∨
     (¬ (v = 0 ↔ c = 1) ∧ (∀ n, Mo_work_b88 (n + f) (nI p) (nI r) (nI S.length) (nI i) τ = Mo_work_b88 n (nI p) (nI r) (nI S.length) (nI j) τ1) ∧ StkM τ1 S))
def dJ (c : Int32) (e1 e2 : Mem → Nat → Option Int32) : Mem → Nat → Option Int32 := fun σw r => (e1 σw r).bind fun x => if (x = 0 ↔ c = 1) then some x else e2 σw r
theorem dJ_and (e1 e2 : Mem → Nat → Option Int32) : dJ 1 e1 e2 = dAnd e1 e2 := by
  funext σw r
  unfold dJ dAnd
  cases e1 σw r with
  | none => rfl
  | some x =>
    rw [Option.bind_some, Option.bind_some]
    by_cases h : x = 0
    · rw [if_pos h, if_pos ⟨fun _ => rfl, fun _ => h⟩]
    · rw [if_neg h, if_neg (fun q : (x = 0 ↔ (1 : Int32) = 1) => h (q.mpr rfl))]
theorem dJ_or (e1 e2 : Mem → Nat → Option Int32) : dJ 2 e1 e2 = dOr e1 e2 := by
  funext σw r
  unfold dJ dOr
  cases e1 σw r with
  | none => rfl
  | some x =>
    rw [Option.bind_some, Option.bind_some]
    by_cases h : x = 0
    · rw [if_pos h, if_neg (fun q : (x = 0 ↔ (2 : Int32) = 1) => absurd (q.mp h) (by decide))]
    · rw [if_neg h, if_pos (show (x = 0 ↔ (2 : Int32) = 1) from ⟨fun q => absurd q h, fun q => absurd q (by decide)⟩)]
theorem ChM_first {c : Int32} {k w : Nat → Int32} {i j T a : Nat} {e : Mem → Nat → Option Int32} (hc : c = 1 ∨ c = 2) (h : SegM k w i j a e) (hk : k j = c) (hw0 : w j = nI T) : ChM c k w i (j + 1) T a e := by
  obtain ⟨hij, ha, h⟩ := h
  refine ⟨by omega, ha, ?_⟩
  intro p m r σw τw τ S hr hw hW hC hS hl
  obtain ⟨A, B⟩ := h p m r σw τw τ S hr hw hW (CodeM_sub hC (by omega) (by omega)) hS hl
  refine ⟨fun q => ?_, fun v hv => ?_⟩
  · obtain ⟨τ1, f, hf, s1, s2⟩ := A q
    exact ⟨τ1, f, by omega, s1, s2⟩
  · obtain ⟨τ1, f, hf, s1, s2, s3⟩ := B v hv
    have st := fun n => m_if (n := n) (r := r) (CodeM_sub (i1 := j) (j1 := j + 1) (CodeM_Fx hC s3) (by omega) (by omega)) (by omega) hk hc hw0 s2 (by omega)
    refine ⟨τ1, f + 1, by omega, s3, ?_⟩
    by_cases q : (v = 0 ↔ c = 1)
    · refine Or.inl ⟨q, fun n => ?_, s2⟩
      rw [show n + (f + 1) = n + 1 + f by omega, s1, st, if_pos q]
    · refine Or.inr ⟨q, fun n => ?_, M_pop s2⟩
      rw [show n + (f + 1) = n + 1 + f by omega, s1, st, if_neg q]
theorem ChM_end {c : Int32} {k w : Nat → Int32} {i j T a b : Nat} {e1 e2 : Mem → Nat → Option Int32} (h1 : ChM c k w i j T a e1) (h2 : SegM k w j T b e2) : SegM k w i T (a + b) (dJ c e1 e2) := by
  obtain ⟨hij, ha, h1⟩ := h1
  obtain ⟨hjl, hb, h2⟩ := h2
  refine ⟨by omega, by omega, ?_⟩
  intro p m r σw τw τ S hr hw hW hC hS hl
  obtain ⟨A, B⟩ := h1 p m r σw τw τ S hr hw hW (CodeM_sub hC (by omega) (by omega)) hS (by omega)
  unfold dJ
  cases he : e1 σw r with
  | none =>
    obtain ⟨τ1, f, hf, s1, s2⟩ := A he
    refine ⟨fun _ => ⟨τ1, f, by omega, s1, s2⟩, fun v hv => ?_⟩
    cases hv
  | some x =>
    rw [Option.bind_some]
    obtain ⟨τ1, f, hf, s3, s⟩ := B x he
    rcases s with ⟨q, s1, s2⟩ | ⟨q, s1, s2⟩
    · rw [if_pos q]
      refine ⟨(fun q => (by cases q)), fun v hv => ?_⟩
      cases hv
      exact ⟨τ1, f, by omega, s1, s2, s3⟩
    · rw [if_neg q]
      obtain ⟨A2, B2⟩ := h2 p m r σw τw τ1 S hr hw (WldM_Fx hW s3) (CodeM_sub (CodeM_Fx hC s3) (by omega) (by omega)) s2 (by omega)
      refine ⟨fun q => ?_, fun v hv => ?_⟩
      · obtain ⟨τ2, g, hg, t1, t2⟩ := A2 q
        refine ⟨τ2, f + g, by omega, fun n => ?_, FxM_tr s3 t2⟩
        rw [show n + (f + g) = n + g + f by omega, s1, t1]
      · obtain ⟨τ2, g, hg, t1, t2, t3⟩ := B2 v hv
        refine ⟨τ2, f + g, by omega, fun n => ?_, t2, FxM_tr s3 t3⟩
        rw [show n + (f + g) = n + g + f by omega, s1, t1]
theorem ChM_next {c : Int32} {k w : Nat → Int32} {i j l T a b : Nat} {e1 e2 : Mem → Nat → Option Int32} (hc : c = 1 ∨ c = 2) (h1 : ChM c k w i j T a e1) (h2 : SegM k w j l b e2) (hk : k l = c) (hw0 : w l = nI T) : ChM c k w i (l + 1) T (a + b) (dJ c e1 e2) := by
  obtain ⟨hij, ha, h1⟩ := h1
  obtain ⟨hjl, hb, h2⟩ := h2
  refine ⟨by omega, by omega, ?_⟩
  intro p m r σw τw τ S hr hw hW hC hS hl
  obtain ⟨A, B⟩ := h1 p m r σw τw τ S hr hw hW (CodeM_sub hC (by omega) (by omega)) hS (by omega)
  unfold dJ
  cases he : e1 σw r with
  | none =>
    obtain ⟨τ1, f, hf, s1, s2⟩ := A he
    refine ⟨fun _ => ⟨τ1, f, by omega, s1, s2⟩, fun v hv => ?_⟩
    cases hv
  | some x =>
    rw [Option.bind_some]
    obtain ⟨τ1, f, hf, s3, s⟩ := B x he
    rcases s with ⟨q, s1, s2⟩ | ⟨q, s1, s2⟩
    · rw [if_pos q]
      refine ⟨(fun q => (by cases q)), fun v hv => ?_⟩
      cases hv
      exact ⟨τ1, f, by omega, s3, Or.inl ⟨q, s1, s2⟩⟩
    · rw [if_neg q]
      have C1 := CodeM_Fx hC s3
      obtain ⟨A2, B2⟩ := h2 p m r σw τw τ1 S hr hw (WldM_Fx hW s3) (CodeM_sub C1 (by omega) (by omega)) s2 (by omega)
      refine ⟨fun q => ?_, fun v hv => ?_⟩
      · obtain ⟨τ2, g, hg, t1, t2⟩ := A2 q
        refine ⟨τ2, f + g, by omega, fun n => ?_, FxM_tr s3 t2⟩
        rw [show n + (f + g) = n + g + f by omega, s1, t1]
      · obtain ⟨τ2, g, hg, t1, t2, t3⟩ := B2 v hv
        have st := fun n => m_if (n := n) (r := r) (CodeM_sub (i1 := l) (j1 := l + 1) (CodeM_Fx C1 t3) (by omega) (by omega)) (by omega) hk hc hw0 t2 (by omega)
        refine ⟨τ2, f + g + 1, by omega, FxM_tr s3 t3, ?_⟩
        by_cases z : (v = 0 ↔ c = 1)
        · refine Or.inl ⟨z, fun n => ?_, t2⟩
          rw [show n + (f + g + 1) = n + 1 + g + f by omega, s1, t1, st, if_pos z]
        · refine Or.inr ⟨z, fun n => ?_, M_pop t2⟩
          rw [show n + (f + g + 1) = n + 1 + g + f by omega, s1, t1, st, if_neg z]
