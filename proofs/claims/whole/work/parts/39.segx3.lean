theorem SegX_and {k w : Nat → Int32} {i j l a b : Nat} {e1 e2 : Mem → Nat → Option Int32} (h1 : SegX k w i j a e1) (hk : k j = 38) (hw0 : w j = nI l) (h2 : SegX k w (j + 1) l b e2) : SegX k w i l (a + b) (dAnd e1 e2) := by
  obtain ⟨hij, ha, h1⟩ := h1
  obtain ⟨hjl, hb, h2⟩ := h2
  refine ⟨by omega, by omega, ?_⟩
  intro p m n r σw σ S ρ hp hr hw hW hC hS hl h3 hρ
  have hm := hC.2.2.1
  have hm2 := hC.2.1
  obtain ⟨A, B⟩ := h1 p m (n + (l - (j + 1)) + 1) r σw σ S ρ hp hr hw hW (CodeX_sub hC (by omega) (by omega)) hS (by omega) h3 hρ
  rw [show n + (l - i) = n + (l - (j + 1)) + 1 + (j - i) by omega]
  unfold dAnd
  cases he : e1 σw r with
  | none =>
    refine ⟨fun _ => A he, fun v hv => ?_⟩
    cases hv
  | some x =>
    obtain ⟨σ1, ρ1, s1, s2, s3, s4, s5⟩ := B x he
    have C1 := CodeX_Fx hp hC s5
    have st := x_at (n := n + (l - (j + 1))) (r := r) (CodeX_sub (i1 := j) (j1 := j + 1) C1 (by omega) (by omega)) (by omega) s3 s4
    rw [hk, hw0, if_neg (by decide), if_pos (by decide)] at st
    rw [s1, st, Option.bind_some]
    by_cases hx : x = 0
    · obtain ⟨σ2, t1, t2, t3, t4⟩ := X_and0 (t := nI l) (Or.inl ⟨rfl, hx⟩) s2
      rw [t1, Option.bind_some, if_pos hx]
      refine ⟨(fun q => (by cases q)), fun v hv => ?_⟩
      cases hv
      have sk := x_skip (n := n) (r := r) (l - (j + 1)) (j + 1) (CodeX_sub (i1 := j + 1) (j1 := j + 1 + (l - (j + 1))) (CodeX_Fx hp C1 t4) (by omega) (by omega)) t3 (by omega) (by omega)
      rw [show j + 1 + (l - (j + 1)) = l by omega] at sk
      exact ⟨σ2, l, sk, t2, t3, Nat.le_refl _, Fx1_tr s5 t4⟩
    · obtain ⟨σ2, t1, t2, t3, t4⟩ := X_and1 (t := nI l) (Or.inl ⟨rfl, hx⟩) s2
      rw [t1, Option.bind_some, if_neg hx]
      obtain ⟨A2, B2⟩ := h2 p m n r σw σ2 S ρ1 hp hr hw (WldX_Fx (WldX_Fx hW s5) t4) (CodeX_sub (CodeX_Fx hp C1 t4) (by omega) (by omega)) t2 (by omega) (t3.trans s3) (by omega)
      refine ⟨fun q => ?_, fun v hv => ?_⟩
      · obtain ⟨σ3, u1, u2⟩ := A2 q
        exact ⟨σ3, u1, Fx1_tr s5 (Fx1_tr t4 u2)⟩
      · obtain ⟨σ3, ρ3, u1, u2, u3, u4, u5⟩ := B2 v hv
        exact ⟨σ3, ρ3, u1, u2, u3, u4, Fx1_tr s5 (Fx1_tr t4 u5)⟩
theorem SegX_or {k w : Nat → Int32} {i j l a b : Nat} {e1 e2 : Mem → Nat → Option Int32} (h1 : SegX k w i j a e1) (hk : k j = 124) (hw0 : w j = nI l) (h2 : SegX k w (j + 1) l b e2) : SegX k w i l (a + b) (dOr e1 e2) := by
  obtain ⟨hij, ha, h1⟩ := h1
  obtain ⟨hjl, hb, h2⟩ := h2
  refine ⟨by omega, by omega, ?_⟩
  intro p m n r σw σ S ρ hp hr hw hW hC hS hl h3 hρ
  have hm := hC.2.2.1
  have hm2 := hC.2.1
  obtain ⟨A, B⟩ := h1 p m (n + (l - (j + 1)) + 1) r σw σ S ρ hp hr hw hW (CodeX_sub hC (by omega) (by omega)) hS (by omega) h3 hρ
  rw [show n + (l - i) = n + (l - (j + 1)) + 1 + (j - i) by omega]
  unfold dOr
  cases he : e1 σw r with
  | none =>
    refine ⟨fun _ => A he, fun v hv => ?_⟩
    cases hv
  | some x =>
    obtain ⟨σ1, ρ1, s1, s2, s3, s4, s5⟩ := B x he
    have C1 := CodeX_Fx hp hC s5
    have st := x_at (n := n + (l - (j + 1))) (r := r) (CodeX_sub (i1 := j) (j1 := j + 1) C1 (by omega) (by omega)) (by omega) s3 s4
    rw [hk, hw0, if_neg (by decide), if_pos (by decide)] at st
    rw [s1, st, Option.bind_some]
    by_cases hx : x = 0
    · obtain ⟨σ2, t1, t2, t3, t4⟩ := X_and1 (t := nI l) (Or.inr (Or.inl ⟨rfl, hx⟩)) s2
      rw [t1, Option.bind_some, if_pos hx]
      obtain ⟨A2, B2⟩ := h2 p m n r σw σ2 S ρ1 hp hr hw (WldX_Fx (WldX_Fx hW s5) t4) (CodeX_sub (CodeX_Fx hp C1 t4) (by omega) (by omega)) t2 (by omega) (t3.trans s3) (by omega)
      refine ⟨fun q => ?_, fun v hv => ?_⟩
      · obtain ⟨σ3, u1, u2⟩ := A2 q
        exact ⟨σ3, u1, Fx1_tr s5 (Fx1_tr t4 u2)⟩
      · obtain ⟨σ3, ρ3, u1, u2, u3, u4, u5⟩ := B2 v hv
        exact ⟨σ3, ρ3, u1, u2, u3, u4, Fx1_tr s5 (Fx1_tr t4 u5)⟩
    · obtain ⟨σ2, t1, t2, t3, t4⟩ := X_and0 (t := nI l) (Or.inr ⟨rfl, hx⟩) s2
      rw [t1, Option.bind_some, if_neg hx]
      refine ⟨(fun q => (by cases q)), fun v hv => ?_⟩
      cases hv
      have sk := x_skip (n := n) (r := r) (l - (j + 1)) (j + 1) (CodeX_sub (i1 := j + 1) (j1 := j + 1 + (l - (j + 1))) (CodeX_Fx hp C1 t4) (by omega) (by omega)) t3 (by omega) (by omega)
      rw [show j + 1 + (l - (j + 1)) = l by omega] at sk
      exact ⟨σ2, l, sk, t2, t3, Nat.le_refl _, Fx1_tr s5 t4⟩
theorem SegX_ch {k w : Nat → Int32} {i j l z a b d : Nat} {e1 e2 e3 : Mem → Nat → Option Int32} (h1 : SegX k w i j a e1) (hk : k j = 91) (hw0 : w j = nI (l + 1)) (h2 : SegX k w (j + 1) l b e2) (hk2 : k l = 58) (hw2 : w l = nI z) (h3 : SegX k w (l + 1) z d e3) : SegX k w i z (a + b + d) (dCh e1 e2 e3) := by
  obtain ⟨hij, ha, h1⟩ := h1
  obtain ⟨hjl, hb, h2⟩ := h2
  obtain ⟨hlz, hd, h3⟩ := h3
  refine ⟨by omega, by omega, ?_⟩
  intro p m n r σw σ S ρ hp hr hw hW hC hS hl h30 hρ
  have hm := hC.2.2.1
  have hm2 := hC.2.1
  obtain ⟨A, B⟩ := h1 p m (n + (z - (l + 1)) + 1 + (l - (j + 1)) + 1) r σw σ S ρ hp hr hw hW (CodeX_sub hC (by omega) (by omega)) hS (by omega) h30 hρ
  rw [show n + (z - i) = n + (z - (l + 1)) + 1 + (l - (j + 1)) + 1 + (j - i) by omega]
  unfold dCh
  cases he : e1 σw r with
  | none =>
    refine ⟨fun _ => A he, fun v hv => ?_⟩
    cases hv
  | some x =>
    obtain ⟨σ1, ρ1, s1, s2, s3, s4, s5⟩ := B x he
    have C1 := CodeX_Fx hp hC s5
    have st := x_at (n := n + (z - (l + 1)) + 1 + (l - (j + 1))) (r := r) (CodeX_sub (i1 := j) (j1 := j + 1) C1 (by omega) (by omega)) (by omega) s3 s4
    rw [hk, hw0, if_neg (by decide), if_pos (by decide)] at st
    rw [s1, st, Option.bind_some]
    by_cases hx : x = 0
    · subst hx
      obtain ⟨σ2, t1, t2, t3, t4⟩ := X_opt0 (t := nI (l + 1)) s2
      rw [t1, Option.bind_some, if_pos rfl]
      have C2 := CodeX_Fx hp C1 t4
      have sk := x_skip (n := n + (z - (l + 1))) (r := r) (l + 1 - (j + 1)) (j + 1) (CodeX_sub (i1 := j + 1) (j1 := j + 1 + (l + 1 - (j + 1))) C2 (by omega) (by omega)) t3 (by omega) (by omega)
      rw [show j + 1 + (l + 1 - (j + 1)) = l + 1 by omega, show n + (z - (l + 1)) + (l + 1 - (j + 1)) = n + (z - (l + 1)) + 1 + (l - (j + 1)) by omega] at sk
      rw [sk]
      obtain ⟨A3, B3⟩ := h3 p m n r σw σ2 S (l + 1) hp hr hw (WldX_Fx (WldX_Fx hW s5) t4) (CodeX_sub C2 (by omega) (by omega)) t2 (by omega) t3 (by omega)
      refine ⟨fun q => ?_, fun v hv => ?_⟩
      · obtain ⟨σ3, u1, u2⟩ := A3 q
        exact ⟨σ3, u1, Fx1_tr s5 (Fx1_tr t4 u2)⟩
      · obtain ⟨σ3, ρ3, u1, u2, u3, u4, u5⟩ := B3 v hv
        exact ⟨σ3, ρ3, u1, u2, u3, u4, Fx1_tr s5 (Fx1_tr t4 u5)⟩
    · obtain ⟨σ2, t1, t2, t3, t4⟩ := X_and1 (t := nI (l + 1)) (Or.inr (Or.inr ⟨rfl, hx⟩)) s2
      rw [t1, Option.bind_some, if_neg hx]
      have C2 := CodeX_Fx hp C1 t4
      obtain ⟨A2, B2⟩ := h2 p m (n + (z - (l + 1)) + 1) r σw σ2 S ρ1 hp hr hw (WldX_Fx (WldX_Fx hW s5) t4) (CodeX_sub C2 (by omega) (by omega)) t2 (by omega) (t3.trans s3) (by omega)
      refine ⟨fun q => ?_, fun v hv => ?_⟩
      · obtain ⟨σ3, u1, u2⟩ := A2 q
        exact ⟨σ3, u1, Fx1_tr s5 (Fx1_tr t4 u2)⟩
      · obtain ⟨σ3, ρ3, u1, u2, u3, u4, u5⟩ := B2 v hv
        have C3 := CodeX_Fx hp C2 u5
        have st2 := x_at (n := n + (z - (l + 1))) (r := r) (CodeX_sub (i1 := l) (j1 := l + 1) C3 (by omega) (by omega)) (by omega) u3 u4
        rw [hk2, hw2, if_neg (by decide), if_pos (by decide)] at st2
        obtain ⟨σ4, v1, v2, v3, v4⟩ := X_colon (t := nI z) u2
        rw [v1, Option.bind_some] at st2
        have sk := x_skip (n := n) (r := r) (z - (l + 1)) (l + 1) (CodeX_sub (i1 := l + 1) (j1 := l + 1 + (z - (l + 1))) (CodeX_Fx hp C3 v4) (by omega) (by omega)) v3 (by omega) (by omega)
        rw [show l + 1 + (z - (l + 1)) = z by omega] at sk
        exact ⟨σ4, z, by rw [u1, st2, sk], v2, v3, Nat.le_refl _, Fx1_tr s5 (Fx1_tr t4 (Fx1_tr u5 v4))⟩
