/-- the bits of the policies with verdict y, among the first k -/
def wv (V : Nat → Nat → Int32) (y : Int32) (r : Nat) : Nat → Int32
  | 0 => 0
  | k + 1 => wv V y r k ||| (if V k r = y then 1 <<< (nI k &&& 31) else 0)
theorem or_0 (x : Int32) : x ||| 0 = x := by simp
theorem X_wv {σ τ : Mem} {s c r : Nat} {V : Nat → Nat → Int32} (y : Int32) (hs : s < 2) (h : Vd σ τ s c V) (hr : r < 2048) : ∀ (d i n : Nat) (σ1 : Mem), i + d = c → d < n → Fx1 σ σ1 →
    ∃ σ2, Se_withVerdict_b6 n (setC s) (nI r) y (wv V y r i) (nI i) σ1 = some (wv V y r c, σ2) ∧ Fx1 σ σ2 := by
  obtain ⟨⟨e1, e2, hc⟩, hi0, h3, hX, hM⟩ := h
  have sv := setC_v hs
  intro d
  induction d with
  | zero =>
    intro i n σ1 hi hn hf
    obtain ⟨n, rfl⟩ : ∃ m, n = m + 1 := ⟨n - 1, by omega⟩
    unfold Se_withVerdict_b6
    have hi : i = c := by omega
    subst hi
    rw [hf.1 (setC s) (by omega) (by omega), e1, if_pos (nI_le (Nat.le_refl _) (by omega))]
    exact ⟨σ1, rfl, hf⟩
  | succ d ih =>
    intro i n σ1 hi hn hf
    obtain ⟨n, rfl⟩ : ∃ m, n = m + 1 := ⟨n - 1, by omega⟩
    unfold Se_withVerdict_b6
    have f1 := hf.1 (setC s + 1) (by omega) (by omega)
    obtain ⟨p1, -, -⟩ := hi0 i (by omega)
    obtain ⟨σ2, x1, x2⟩ := hX i r σ1 (by omega) hr hf
    rw [hf.1 (setC s) (by omega) (by omega), e1, if_neg (nI_ge (a := i) (b := c) (by omega) (by omega)), if_pos (pmIn_nI (g := i) (by omega) (by omega)), nI_clamp (by omega), f1, if_pos p1, x1, Option.bind_some]
    show ∃ σ3, (if ¬ V i r = y then _ else _) = _ ∧ _
    have := ih (i + 1) n σ2 (by omega) (by omega) x2
    rw [show wv V y r (i + 1) = wv V y r i ||| (if V i r = y then 1 <<< (nI i &&& 31) else 0) from rfl] at this
    by_cases v1 : V i r = y
    · rw [if_neg (fun q : ¬ V i r = y => q v1), nI_1]
      rw [if_pos v1] at this
      exact this
    · rw [if_pos v1, nI_1]
      rw [if_neg v1] at this
      exact this
theorem M_wv {σ τ : Mem} {s c r : Nat} {V : Nat → Nat → Int32} (y v3 : Int32) (hs : s < 2) (h : Vd σ τ s c V) (hr : r < 2048) (hy : (y = 1 ∧ v3 = 1) ∨ (y = 2 ∧ v3 = 2)) : ∀ (d i n : Nat) (τ1 : Mem), i + d = c → d < n → FxM τ τ1 →
    ∃ τ2, Mo_ask_b57 n (nI s) (nI r) v3 (wv V y r i) (nI i) τ1 = some (wv V y r c, τ2) ∧ FxM τ τ2 := by
  obtain ⟨⟨e1, e2, hc⟩, hi0, h3, hX, hM⟩ := h
  intro d
  induction d with
  | zero =>
    intro i n τ1 hi hn hf
    obtain ⟨n, rfl⟩ : ∃ m, n = m + 1 := ⟨n - 1, by omega⟩
    unfold Mo_ask_b57
    have hi : i = c := by omega
    subst hi
    rw [if_pos (pmIn_nI hs (by omega)), nI_clamp (by omega), hf 6 (by omega), e2, if_pos (nI_le (Nat.le_refl _) (by omega))]
    exact ⟨τ1, rfl, hf⟩
  | succ d ih =>
    intro i n τ1 hi hn hf
    obtain ⟨n, rfl⟩ : ∃ m, n = m + 1 := ⟨n - 1, by omega⟩
    unfold Mo_ask_b57
    have e : (8 : Int32) * nI s + nI i = nI (8 * s + i) := by rw [show (8 : Int32) = nI 8 from rfl, pk_mul, nI_add]
    obtain ⟨τ2, x1, x2⟩ := hM i r τ1 (by omega) hr hf
    rw [if_pos (pmIn_nI hs (by omega)), nI_clamp (by omega), hf 6 (by omega), e2, if_neg (nI_ge (a := i) (b := c) (by omega) (by omega)), e, x1, Option.bind_some]
    have := ih (i + 1) n τ2 (by omega) (by omega) x2
    rw [show wv V y r (i + 1) = wv V y r i ||| (if V i r = y then 1 <<< (nI i &&& 31) else 0) from rfl] at this
    have g : ∀ s1 : Int32, (vM (V i r) = s1 ↔ V i r = y) → ∃ τ3, Mo_ask_b90 (Mo_ask_b57 n) (nI s) (nI r) v3 (wv V y r i) (nI i) (vM (V i r)) s1 τ2 = some (wv V y r c, τ3) ∧ FxM τ τ3 := fun s1 hs1 => by
      unfold Mo_ask_b90
      by_cases v1 : V i r = y
      · rw [if_neg (fun q : ¬ vM (V i r) = s1 => q (hs1.mpr v1)), nI_1]
        rw [if_pos v1] at this
        exact this
      · rw [if_pos (fun q => v1 (hs1.mp q)), nI_1]
        rw [if_neg v1, or_0] at this
        exact this
    have vm := vM_1 (h3 i r (by omega) hr)
    rcases hy with ⟨rfl, rfl⟩ | ⟨rfl, rfl⟩
    · rw [if_neg (fun q => q rfl)]
      exact g 1 vm.1
    · rw [if_pos (by decide)]
      exact g (-1) vm.2
theorem X_wva {σ τ : Mem} {s c r : Nat} {V : Nat → Nat → Int32} (y : Int32) (hs : s < 2) (h : Vd σ τ s c V) (hr : r < 2048) : ∃ σ2, Se_withVerdict (setC s) (nI r) y σ = some (wv V y r c, σ2) ∧ Fx1 σ σ2 :=
  X_wv y hs h hr c 0 2100 σ (by omega) (by have := h.1.2.2; omega) (Fx1_rf σ)
theorem M_wva {σ τ : Mem} {s c r : Nat} {V : Nat → Nat → Int32} (y v3 : Int32) (hs : s < 2) (h : Vd σ τ s c V) (hr : r < 2048) (hy : (y = 1 ∧ v3 = 1) ∨ (y = 2 ∧ v3 = 2)) : ∃ τ2, Mo_ask_b57 FU (nI s) (nI r) v3 0 0 τ = some (wv V y r c, τ2) ∧ FxM τ τ2 :=
  M_wv y v3 hs h hr hy c 0 2100 τ (by omega) (by have := h.1.2.2; omega) (fun _ _ => rfl)
theorem three_c (v : Int32) : (v < 0 ∧ ¬ v = 0 ∧ ¬ v = 1 ∧ ¬ v = 2) ∨ (¬ v < 0 ∧ ¬ v ≤ 2 ∧ ¬ v = 0 ∧ ¬ v = 1 ∧ ¬ v = 2) ∨ v = 0 ∨ v = 1 ∨ v = 2 := by
  by_cases h0 : v < 0
  · exact Or.inl ⟨h0, fun z => absurd h0 (by rw [z]; decide), fun z => absurd h0 (by rw [z]; decide), fun z => absurd h0 (by rw [z]; decide)⟩
  · obtain ⟨w, hw, rfl⟩ := nI_of h0
    right
    by_cases h : w < 3
    · right
      rcases (show w = 0 ∨ w = 1 ∨ w = 2 by omega) with rfl | rfl | rfl
      · exact Or.inl rfl
      · exact Or.inr (Or.inl rfl)
      · exact Or.inr (Or.inr rfl)
    · left
      refine ⟨h0, nI_ge (a := 2) (b := w) (by omega) (by omega), fun z => ?_, fun z => ?_, fun z => ?_⟩
      · have := (nI_eq (b := 0) (by omega) (by omega)).mp z
        omega
      · have := (nI_eq (b := 1) (by omega) (by omega)).mp z
        omega
      · have := (nI_eq (b := 2) (by omega) (by omega)).mp z
        omega
theorem S_ask : Stp_ask Rel := fun σ τ n h hn a b c => by
  have no : ∃ (r : Int32) (σ1 τ1 : Mem), some ((-2 : Int32), σ) = some (r, σ1) ∧ some ((-2 : Int32), τ) = some (r, τ1) ∧ Rel σ1 τ1 (n + 1) := ⟨-2, σ, τ, rfl, rfl, Rel_up σ τ n h⟩
  unfold Ps_ask Mo_ask
  rcases isSet_c a with ⟨a1, a2⟩ | ⟨s, hs, rfl, a1, a2⟩
  · rw [if_pos a1, if_pos a2]
    exact no
  · rw [if_neg (n10 a1), if_neg (n10 a2)]
    by_cases b0 : b < 0
    · rw [if_pos b0, if_pos b0]
      exact no
    · obtain ⟨r, hr, rfl⟩ := nI_of b0
      rw [if_neg b0, if_neg b0]
      by_cases hr2 : r < 2048
      · rw [if_pos (show nI r < (2048 : Int32) from nI_lt (b := 2048) hr2 (by omega)), if_neg (show ¬ (2047 : Int32) < nI r from nI_nlt (a := 2047) (b := r) (by omega) (by omega))]
        obtain ⟨cn, V, hV⟩ := mk_Vd h hs
        rcases three_c c with ⟨c0, c1, c2, c3⟩ | ⟨c0, c4, c1, c2, c3⟩ | rfl | rfl | rfl
        · rw [if_neg c1, if_neg c2, if_neg c3, if_pos c0]
          exact no
        · rw [if_neg c1, if_neg c2, if_neg c3, if_neg c0, if_neg c4]
          exact no
        · obtain ⟨σ1, x1, x2⟩ := X_all hs hV hr2
          obtain ⟨τ1, y1, y2⟩ := M_all hs hV hr2 skp_no
          rw [if_pos rfl, if_neg (by decide), if_pos (by decide), if_neg (fun q => q rfl), chosen_v hs, Option.bind_some, x1, y1, Option.bind_some, Option.bind_some]
          have fin := Rel_J h x2 y2
          cases alw V (pmP σ s) cn 9 r
          · exact ⟨0, σ1, τ1, rfl, rfl, fin⟩
          · exact ⟨1, σ1, τ1, rfl, rfl, fin⟩
        · obtain ⟨σ1, x1, x2⟩ := X_wva 1 hs hV hr2
          obtain ⟨τ1, y1, y2⟩ := M_wva 1 1 hs hV hr2 (Or.inl ⟨rfl, rfl⟩)
          rw [if_neg (by decide), if_pos rfl, if_neg (by decide), if_pos (by decide), if_pos (by decide), chosen_v hs, Option.bind_some, x1, y1, Option.bind_some]
          exact ⟨_, σ1, τ1, rfl, rfl, Rel_J h x2 y2⟩
        · obtain ⟨σ1, x1, x2⟩ := X_wva 2 hs hV hr2
          obtain ⟨τ1, y1, y2⟩ := M_wva 2 2 hs hV hr2 (Or.inr ⟨rfl, rfl⟩)
          rw [if_neg (by decide), if_neg (by decide), if_pos rfl, if_neg (by decide), if_pos (by decide), if_pos (by decide), chosen_v hs, Option.bind_some, x1, y1, Option.bind_some]
          exact ⟨_, σ1, τ1, rfl, rfl, Rel_J h x2 y2⟩
      · rw [if_neg (show ¬ nI r < (2048 : Int32) from nI_nlt (a := r) (b := 2048) (by omega) (by omega)), if_pos (show (2047 : Int32) < nI r from nI_lt (a := 2047) (by omega) (by omega))]
        exact no
