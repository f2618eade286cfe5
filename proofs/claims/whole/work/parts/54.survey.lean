/-- only the two caches of p, and the judge, have changed -/
def FS (p : Nat) (σ σ1 : Mem) : Prop := ∀ c, c ≠ 13 → c ≠ 14 → c ≠ p + 3 → c ≠ p + 4 → σ1 c = σ c
theorem FS_Fx {p : Nat} {σ σ1 σ2 : Mem} (h : FS p σ σ1) (hf : Fx1 σ1 σ2) : FS p σ σ2 := fun c a b c1 c2 => by rw [hf.1 c a b]; exact h c a b c1 c2
theorem FS_W {p : Nat} {σ σ1 : Mem} (hp : isPo p) (h : FS p σ σ1) : WldX σ σ1 := by
  have := po_ne hp
  exact fun c a b => h c (by omega) (by omega) (by omega) (by omega)
theorem FS_p {p : Nat} {σ σ1 : Mem} (hp : isPo p) (h : FS p σ σ1) : σ1 p = σ p := by
  have := po_ne hp
  exact h p (by omega) (by omega) (by omega) (by omega)
/-- a policy with its conditions -/
def PolC (σ : Mem) (p : Nat) (cs : List (Den × Bool)) : Prop := isPo p ∧ OkW σ ∧ PolX σ p cs ∧ DepW cs ∧ DepL (σ p 3) cs
theorem sv_cond {σ σ1 : Mem} {p r : Nat} {cs : List (Den × Bool)} (h : PolC σ p cs) (hf : FS p σ σ1) (hr : r < 2048) : ∃ σ2, Ju_conditions p (nI r) σ1 = some (vd cs σ r, σ2) ∧ Fx1 σ1 σ2 := by
  obtain ⟨hp, hw, ⟨m, h9, hm, hc⟩, hd, -⟩ := h
  have hb := po_ne hp
  have f1 := hf (p + 1) (by omega) (by omega) (by omega) (by omega)
  have f2 := hf (p + 2) (by omega) (by omega) (by omega) (by omega)
  rw [← FS_p hp hf] at h9
  rw [← f1, ← f2] at hc
  obtain ⟨σ2, s1, s2⟩ := X_cond (r := r) hp hr (OkW_cg hw (FS_W hp hf)) h9 hm hc
  refine ⟨σ2, ?_, s2⟩
  rw [s1, hd σ σ1 r (FS_W hp hf)]
theorem bit_step {A : Int32} {P : Nat → Bool} {g : Nat} (hg : g < 32) (h : ∀ j, j < 32 → tb A j = (decide (j < g) && P j)) : ∀ j, j < 32 → tb (A ||| (if P g = true then 1 <<< (nI g &&& 31) else 0)) j = (decide (j < g + 1) && P j) := by
  intro j hj
  rw [tb_or, h j hj]
  by_cases e : j = g
  · subst e
    rw [decide_eq_false (Nat.lt_irrefl j), decide_eq_true (Nat.lt_succ_self j), Bool.false_and, Bool.false_or, Bool.true_and]
    cases hP : P j
    · rw [if_neg (by decide), tb_0]
    · rw [if_pos rfl, tb_1 hg hj, decide_eq_true rfl]
  · have z : tb (if P g = true then 1 <<< (nI g &&& 31) else 0) j = false := by
      split
      · rw [tb_1 hg hj, decide_eq_false e]
      · exact tb_0 j
    rw [z, Bool.or_false]
    by_cases hl : j < g
    · rw [decide_eq_true hl, decide_eq_true (show j < g + 1 by omega)]
    · rw [decide_eq_false hl, decide_eq_false (show ¬ j < g + 1 by omega)]
theorem and_nI (g : Nat) (hg : g < 32) (L : Int32) : ∃ j, j ≤ g ∧ nI g &&& L = nI j ∧ nI j &&& L = nI g &&& L := by
  have e : nI g &&& L = nI (g &&& un L) := by
    have hl : g &&& un L ≤ g := Nat.and_le_left
    apply un_inj
    rw [un_and, un_nI (by omega), un_nI (by omega)]
  refine ⟨g &&& un L, Nat.and_le_left, e, ?_⟩
  rw [← e, Int32.and_assoc, Int32.and_self]
theorem b113_v {k : Nat → Int32 → Int32 → Int32 → Int32 → Int32 → Mem → Option Mem} {p : Nat} {q t A E v7 : Int32} {g : Nat} {σ : Mem} {a e : Bool} (h : Ps_hasBit E v7 = b2i e) : Ju_surveyPair_b113 k p q t E (nI g) v7 A (if a = true then 1 <<< (nI g &&& 31) else 0) σ = k p q t (A ||| (if a = true then 1 <<< (nI g &&& 31) else 0)) (E ||| (if e = true then 1 <<< (nI g &&& 31) else 0)) (nI (g + 1)) σ := by
  unfold Ju_surveyPair_b113
  rw [h, nI_1]
  cases e
  · rfl
  · rfl
theorem b68_v {k : Nat → Int32 → Int32 → Int32 → Int32 → Int32 → Mem → Option Mem} {p : Nat} {q t A E v8 x : Int32} {g : Nat} {σ : Mem} : Ju_surveyPair_b68 k p q t E (nI g) v8 A x σ = k p q t (A ||| x) (E ||| (if decide (v8 = 2) = true then 1 <<< (nI g &&& 31) else 0)) (nI (g + 1)) σ := by
  unfold Ju_surveyPair_b68
  rw [nI_1]
  by_cases e : v8 = 2
  · rw [if_neg (fun z => z e), decide_eq_true e, if_pos rfl]
  · rw [if_pos e, decide_eq_false e, if_neg (by decide)]
theorem X_b9 {σ : Mem} {p q t : Nat} {cs : List (Den × Bool)} (h : PolC σ p cs) (hq : q < 4) (ht : t < 4) : ∀ (d g n : Nat) (A E : Int32) (σ1 : Mem), g + d = 32 → d < n → FS p σ σ1 →
    (∀ j, j < 32 → tb A j = (decide (j < g) && decide (vd cs σ (512 * q + 32 * t + j) = 1))) → (∀ j, j < 32 → tb E j = (decide (j < g) && decide (vd cs σ (512 * q + 32 * t + j) = 2))) →
    ∃ A1 E1 σ2, Ju_surveyPair_b9 n p (nI q) (nI t) A E (nI g) σ1 = Ju_surveyPair_b148 FU p (nI q) (nI t) A1 E1 0 σ2 ∧ Fx1 σ1 σ2 ∧
      (∀ j, j < 32 → tb A1 j = decide (vd cs σ (512 * q + 32 * t + j) = 1)) ∧ (∀ j, j < 32 → tb E1 j = decide (vd cs σ (512 * q + 32 * t + j) = 2)) := by
  intro d
  induction d with
  | zero =>
    intro g n A E σ1 hg hn hf hA hE
    obtain ⟨n, rfl⟩ : ∃ m, n = m + 1 := ⟨n - 1, by omega⟩
    obtain rfl : g = 32 := by omega
    rw [Ju_surveyPair_b9, if_pos (by decide)]
    exact ⟨A, E, σ1, rfl, Fx1_rf σ1, fun j hj => by rw [hA j hj, decide_eq_true hj, Bool.true_and], fun j hj => by rw [hE j hj, decide_eq_true hj, Bool.true_and]⟩
  | succ d ih =>
    intro g n A E σ1 hg hn hf hA hE
    obtain ⟨n, rfl⟩ : ∃ m, n = m + 1 := ⟨n - 1, by omega⟩
    have hg32 : g < 32 := by omega
    have n32 : ¬ (32 : Int32) ≤ nI g := nI_ge (a := g) (b := 32) hg32 (by omega)
    rw [Ju_surveyPair_b9, if_neg n32, FS_p h.1 hf]
    have sA := bit_step (P := fun j => decide (vd cs σ (512 * q + 32 * t + j) = 1)) hg32 hA
    have sE := bit_step (P := fun j => decide (vd cs σ (512 * q + 32 * t + j) = 2)) hg32 hE
    obtain ⟨j, hj, e1, e2⟩ := and_nI g hg32 (σ p 3)
    by_cases hl : nI g &&& σ p 3 = nI g
    · rw [if_neg (fun z => z hl)]
      have er : nI q * 512 + nI t * 32 + nI g = nI (512 * q + 32 * t + g) := by
        rw [show (512 : Int32) = nI 512 from rfl, show (32 : Int32) = nI 32 from rfl, pk_mul, pk_mul, nI_add, nI_add, Nat.mul_comm q, Nat.mul_comm t]
      obtain ⟨σ2, c1, c2⟩ := sv_cond (r := 512 * q + 32 * t + g) h hf (by omega)
      rw [er, c1, Option.bind_some]
      show ∃ A1 E1 σ3, (if ¬ vd cs σ (512 * q + 32 * t + g) = 1 then _ else _) = _ ∧ _
      obtain ⟨A1, E1, σ3, r1, r2, r3, r4⟩ := ih (g + 1) n _ _ σ2 (by omega) (by omega) (FS_Fx hf c2) sA sE
      refine ⟨A1, E1, σ3, ?_, Fx1_tr c2 r2, r3, r4⟩
      rw [← r1]
      by_cases v1 : vd cs σ (512 * q + 32 * t + g) = 1
      · rw [if_neg (fun z => z v1), b68_v, decide_eq_true v1, if_pos rfl]
      · rw [if_pos v1, b68_v, decide_eq_false v1, if_neg (show ¬ false = true by decide)]
    · rw [if_pos hl]
      have hjg : j < g := by
        rcases Nat.lt_or_ge j g with z | z
        · exact z
        · exact absurd (e1.trans (by rw [show j = g by omega])) hl
      have hd := h.2.2.2.2 σ (512 * q + 32 * t + g) (512 * q + 32 * t + j) h.2.1 (by omega) (by omega) (by omega) (by omega) (by rw [show (512 * q + 32 * t + g) % 32 = g by omega, show (512 * q + 32 * t + j) % 32 = j by omega]; exact e2.symm)
      have bA : Ps_hasBit A (nI j) = b2i (decide (vd cs σ (512 * q + 32 * t + g) = 1)) := by
        rw [hasBit_b (by omega), hA j (by omega), decide_eq_true hjg, Bool.true_and, hd]
      have bE : Ps_hasBit E (nI j) = b2i (decide (vd cs σ (512 * q + 32 * t + g) = 2)) := by
        rw [hasBit_b (by omega), hE j (by omega), decide_eq_true hjg, Bool.true_and, hd]
      obtain ⟨A1, E1, σ3, r1, r2, r3, r4⟩ := ih (g + 1) n _ _ σ1 (by omega) (by omega) hf sA sE
      refine ⟨A1, E1, σ3, ?_, r2, r3, r4⟩
      rw [← r1, e1, bA]
      have B := fun a => b113_v (k := Ju_surveyPair_b9 n) (p := p) (q := nI q) (t := nI t) (A := A) (g := g) (σ := σ1) (a := a) bE
      cases hv : decide (vd cs σ (512 * q + 32 * t + g) = 1)
      · have := B false
        rw [if_neg (show ¬ false = true by decide)] at this
        rw [if_pos (show b2i false = 0 from rfl), if_neg (show ¬ false = true by decide)]
        exact this
      · have := B true
        rw [if_pos rfl] at this
        rw [if_neg (show ¬ b2i true = 0 by decide), if_pos rfl]
        exact this
