theorem cF_b (σ : Mem) : ((Re_take 59 σ).bind fun q115 => if (q115 15 1) ≤ (q115 15 3) then Re_read_b133 q115 else (Re_refuseByte q115).bind fun q130 => Re_read_b133 q130) = (cF σ).bind fun q => Re_read_b133 q := by
  unfold cF
  cases Re_take 59 σ with
  | none => rfl
  | some q =>
    rw [Option.bind_some, Option.bind_some]
    by_cases h : (q 15 1) ≤ (q 15 3)
    · rw [if_pos h, if_pos h]
      rfl
    · rw [if_neg h, if_neg h]
theorem b72_eq {p : Nat} {σ q1 q2 q3 : Mem} {s1 s2 s3 : Int32} (hp : isPo p) (h0 : ix (σ 15 2) = p) (e1 : Re_scope 1 σ = some (s1, q1)) (h1 : ix ((mput q1 p 4 s1) 15 2) = p) (e2 : Re_scope 0 (mput q1 p 4 s1) = some (s2, q2)) (h2 : ix ((mput q2 p 5 s2) 15 2) = p) (e3 : Re_scope 1 (mput q2 p 5 s2) = some (s3, q3)) : Re_read_b72 σ = ((Re_conditions_b4 FU 0 (nI 0) (mput q3 p 6 s3)).bind cF).bind fun q => Re_read_b133 q := by
  unfold Re_read_b72
  rw [h0, if_pos hp, e1, Option.bind_some]
  show (if isPo (ix ((mput q1 p 4 s1) 15 2)) then (Re_scope 0 (mput q1 p 4 s1)).bind fun q90 => _ else none) = _
  rw [h1, if_pos hp, e2, Option.bind_some]
  show (if isPo (ix ((mput q2 p 5 s2) 15 2)) then (Re_scope 1 (mput q2 p 5 s2)).bind fun q102 => _ else none) = _
  rw [h2, if_pos hp, e3, Option.bind_some]
  show ((Re_conditions (mput q3 p 6 s3)).bind fun q109 => _) = _
  unfold Re_conditions
  show ((Re_conditions_b4 FU 0 (nI 0) (mput q3 p 6 s3)).bind fun q109 => _) = _
  cases Re_conditions_b4 FU 0 (nI 0) (mput q3 p 6 s3) with
  | none => rfl
  | some q =>
    rw [Option.bind_some, Option.bind_some]
    exact cF_b q
section
variable {p : Nat} {σ0 τ0 : Mem} {len i : Nat} {ρ : Int32} {a : Nat} {P : Int32} {j : Nat} {L f : Int32} {K W : Nat → Int32} {g top : Int32} {l : Nat} {C N : Nat → Int32} {F : Mem}
theorem b103_r (n : Nat) (v1 v3 : Int32) (hρ : ρ ≠ 0) : Mo_add_b103 (n + 1) v1 v3 (mkM τ0 i ρ g top l a f C N F) = Mo_add_b137 v1 (mkM τ0 i ρ g top l a f C N F) := by
  rw [Mo_add_b103, M_ρ, if_pos hρ]
  unfold Mo_add_b126
  rw [M_ρ, if_pos hρ, ite_self]
theorem b103_s (n : Nat) (v1 : Int32) {x : Nat} (hx : x < 3) : Mo_add_b103 (n + 1) v1 (nI x) (mkM τ0 i 0 g top l a f C N F) = (Mo_readScope (nI x) (mkM τ0 i 0 g top l a f C N F)).bind fun q117 => Mo_add_b103 n v1 (nI (x + 1)) q117 := by
  rw [Mo_add_b103, if_neg (show ¬ (3 : Int32) ≤ nI x from nI_ge (a := x) (b := 3) hx (by omega)), M_ρ, if_neg (fun z => z rfl), nI_1]
theorem b103_e (n : Nat) (v1 : Int32) : Mo_add_b103 (n + 1) v1 (nI 3) (mkM τ0 i 0 g top l a f C N F) = (Mo_readConditions (mkM τ0 i 0 g top l a f C N F)).bind fun q134 => Mo_add_b137 v1 q134 := by
  rw [Mo_add_b103, if_pos (by decide)]
  unfold Mo_add_b126
  rw [M_ρ, if_neg (fun z => z rfl)]
/-- the reference's own scopes alone differ -/
def B8 (τ0 τ1 : Mem) : Prop := (∀ c, c ≠ 8 → τ1 c = τ0 c) ∧ ∀ q, q < 48 → τ1 8 q = τ0 8 q
theorem B8_rf (τ0 : Mem) : B8 τ0 τ0 := ⟨fun _ _ => rfl, fun _ _ => rfl⟩
theorem B8_p {τ1 : Mem} (h : B8 τ0 τ1) {k : Nat} (hk : 48 ≤ k) (v : Int32) : B8 τ0 (mput τ1 8 k v) := by
  refine ⟨fun c hc => ?_, fun q hq => ?_⟩
  · rw [mrow_ne hc]
    exact h.1 c hc
  · rw [mput_ne (by omega)]
    exact h.2 q hq
def OutSc (p : Nat) (σ0 τ0 : Mem) (len i a : Nat) (P : Int32) (j : Nat) (L f : Int32) (K W : Nat → Int32) (g top : Int32) (l : Nat) (C N : Nat → Int32) (F : Mem) (s1 s2 s3 : Int32) (σ1 : Mem) : Prop :=
  (∃ ρ τ1 i2, Dead p (mput (mput (mput σ0 p 4 s1) p 5 s2) p 6 s3) len true ρ σ1 ∧ B8 τ0 τ1 ∧ ∀ n v1, Mo_add_b103 (n + 4) v1 (nI 0) (mkM τ0 i 0 g top l a f C N F) = Mo_add_b137 v1 (mkM τ1 i2 ρ g top l a f C N F)) ∨
  (∃ i3, σ1 = mkX p (mput (mput (mput σ0 p 4 s1) p 5 s2) p 6 s3) i3 0 a P j L f K W ∧ i + 3 ≤ i3 ∧ i3 ≤ len ∧ (isScp 8 s1 ∧ isScp 4 s2 ∧ isScp 8 s3) ∧ ∀ n v1, Mo_add_b103 (n + 4) v1 (nI 0) (mkM τ0 i 0 g top l a f C N F) = (Mo_readConditions (mkM (mput (mput (mput τ0 8 48 s1) 8 49 s2) 8 50 s3) i3 0 g top l a f C N F)).bind fun q134 => Mo_add_b137 v1 q134)
theorem T_scopes (hC : CT p σ0 τ0 len) (hi0 : i ≤ len) (hj : j ≤ 160) : ∃ s1 q1 s2 q2 s3 q3, Re_scope 1 (mkX p σ0 i 0 a P j L f K W) = some (s1, q1) ∧ ix ((mput q1 p 4 s1) 15 2) = p ∧ Re_scope 0 (mput q1 p 4 s1) = some (s2, q2) ∧ ix ((mput q2 p 5 s2) 15 2) = p ∧ Re_scope 1 (mput q2 p 5 s2) = some (s3, q3) ∧ OutSc p σ0 τ0 len i a P j L f K W g top l C N F s1 s2 s3 (mput q3 p 6 s3) := by
  have hp := hC.1
  obtain ⟨s1, q1, e1, o1⟩ := T_scope (a := a) (P := P) (L := L) (f := f) (K := K) (W := W) (g := g) (top := top) (l := l) (C := C) (N := N) (F := F) hC hi0 hj (x := 0) (by omega)
  have k4 : (4 : Nat) ≠ 9 ∧ (4 : Nat) ≠ 3 ∧ (4 : Nat) ≠ 1 := by omega
  have k5 : (5 : Nat) ≠ 9 ∧ (5 : Nat) ≠ 3 ∧ (5 : Nat) ≠ 1 := by omega
  have k6 : (6 : Nat) ≠ 9 ∧ (6 : Nat) ≠ 3 ∧ (6 : Nat) ≠ 1 := by omega
  have C1 := CT_x hC 4 s1
  rcases o1 with ⟨ρ, t1, i2, h1, r1⟩ | ⟨i1, rfl, a1, a2, a3, r1⟩
  · rw [show 48 + 0 = 48 from rfl] at r1
    have d1 := dd_q hp h1 k4 s1
    obtain ⟨s2, q2, e2, h2⟩ := scope_d C1 d1 0
    have C2 := CT_x C1 5 s2
    have d2 := dd_q hp h2 k5 s2
    obtain ⟨s3, q3, e3, h3⟩ := scope_d C2 d2 1
    refine ⟨s1, q1, s2, q2, s3, q3, e1, dd_ix C1 d1, e2, dd_ix C2 d2, e3, Or.inl ⟨ρ, _, i2, dd_q hp h3 k6 s3, B8_p (B8_rf τ0) (k := 48) (by omega) t1, fun n v1 => ?_⟩⟩
    rw [b103_s (n + 3) v1 (x := 0) (by omega), r1, Option.bind_some]
    exact b103_r (n + 2) v1 (nI 1) (dd_ne hC h1)
  rw [show 48 + 0 = 48 from rfl] at r1
  have M1 := CT_m C1 (c := 8) (Or.inr rfl) 48 s1
  obtain ⟨s2, q2, e2, o2⟩ := T_scope (a := a) (P := P) (L := L) (f := f) (K := K) (W := W) (g := g) (top := top) (l := l) (C := C) (N := N) (F := F) M1 a2 hj (x := 1) (by omega)
  have C2 := CT_x M1 5 s2
  rcases o2 with ⟨ρ, t1, i2, h2, r2⟩ | ⟨i2, rfl, b1, b2, b3, r2⟩
  · rw [show 48 + 1 = 49 from rfl] at r2
    have d2 := dd_q hp h2 k5 s2
    obtain ⟨s3, q3, e3, h3⟩ := scope_d C2 d2 1
    refine ⟨s1, _, s2, q2, s3, q3, e1, ?_, ?_, dd_ix C2 d2, e3, Or.inl ⟨ρ, _, i2, dd_q hp h3 k6 s3, B8_p (B8_p (B8_rf τ0) (k := 48) (by omega) s1) (k := 49) (by omega) t1, fun n v1 => ?_⟩⟩
    · rw [x_q hp k4]
      exact ct_ix M1
    · rw [x_q hp k4]
      exact e2
    · rw [b103_s (n + 3) v1 (x := 0) (by omega), r1, Option.bind_some, b103_s (n + 2) v1 (x := 1) (by omega)]
      rw [r2, Option.bind_some]
      exact b103_r (n + 1) v1 (nI 2) (dd_ne M1 h2)
  rw [show 48 + 1 = 49 from rfl] at r2
  have M2 := CT_m C2 (c := 8) (Or.inr rfl) 49 s2
  obtain ⟨s3, q3, e3, o3⟩ := T_scope (a := a) (P := P) (L := L) (f := f) (K := K) (W := W) (g := g) (top := top) (l := l) (C := C) (N := N) (F := F) M2 b2 hj (x := 2) (by omega)
  have ec : ∀ n v1, Mo_add_b103 (n + 4) v1 (nI 0) (mkM τ0 i 0 g top l a f C N F) = (Mo_readScope (nI 2) (mkM (mput (mput τ0 8 48 s1) 8 49 s2) i2 0 g top l a f C N F)).bind fun q117 => Mo_add_b103 (n + 1) v1 (nI 3) q117 := by
    intro n v1
    rw [b103_s (n + 3) v1 (x := 0) (by omega), r1, Option.bind_some, b103_s (n + 2) v1 (x := 1) (by omega)]
    rw [r2, Option.bind_some, b103_s (n + 1) v1 (x := 2) (by omega)]
  rcases o3 with ⟨ρ, t1, i3, h3, r3⟩ | ⟨i3, rfl, c1, c2, c3, r3⟩
  · rw [show 48 + 2 = 50 from rfl] at r3
    refine ⟨s1, _, s2, mkX p (mput σ0 p 4 s1) i2 0 a P j L f K W, s3, q3, e1, ?_, ?_, ?_, ?_, Or.inl ⟨ρ, _, i3, dd_q hp h3 k6 s3, B8_p (B8_p (B8_p (B8_rf τ0) (k := 48) (by omega) s1) (k := 49) (by omega) s2) (k := 50) (by omega) t1, fun n v1 => ?_⟩⟩
    · rw [x_q hp k4]
      exact ct_ix M1
    · rw [x_q hp k4]
      exact e2
    · rw [x_q hp k5]
      exact ct_ix M2
    · rw [x_q hp k5]
      exact e3
    · rw [ec, r3, Option.bind_some]
      exact b103_r n v1 (nI 3) (dd_ne M2 h3)
  · rw [show 48 + 2 = 50 from rfl] at r3
    refine ⟨s1, _, s2, mkX p (mput σ0 p 4 s1) i2 0 a P j L f K W, s3, mkX p (mput (mput σ0 p 4 s1) p 5 s2) i3 0 a P j L f K W, e1, ?_, ?_, ?_, ?_, Or.inr ⟨i3, x_q hp k6 s3, by omega, c2, ⟨a3, b3, c3⟩, fun n v1 => ?_⟩⟩
    · rw [x_q hp k4]
      exact ct_ix M1
    · rw [x_q hp k4]
      exact e2
    · rw [x_q hp k5]
      exact ct_ix M2
    · rw [x_q hp k5]
      exact e3
    · rw [ec, r3, Option.bind_some]
      exact b103_e n v1
end
