theorem h27B {b : Int32} (h : isB b) (τ : Mem) : Mo_readAtom_b27 b 0 τ = Mo_readAtom_b120 b 0 0 τ := by
  rcases h with rfl | rfl | rfl | rfl | rfl | rfl | rfl <;> rfl
theorem h27C {b : Int32} (h : isC b) (τ : Mem) : Mo_readAtom_b27 b 0 τ = Mo_readAtom_b120 b 0 1 τ := by
  rcases h with rfl | rfl | rfl | rfl <;> rfl
theorem h27A {dg : Nat} (h : dg < 10) (τ : Mem) : Mo_readAtom_b27 (nI (48 + dg)) 1 τ = Mo_readAtom_b120 (nI (48 + dg)) 1 0 τ := by
  rcases (show dg = 0 ∨ dg = 1 ∨ dg = 2 ∨ dg = 3 ∨ dg = 4 ∨ dg = 5 ∨ dg = 6 ∨ dg = 7 ∨ dg = 8 ∨ dg = 9 by omega) with rfl | rfl | rfl | rfl | rfl | rfl | rfl | rfl | rfl | rfl <;> rfl
theorem h27N {b : Int32} (h1 : ¬ isB b) (h2 : ¬ isC b) (τ : Mem) : Mo_readAtom_b27 b 0 τ = Mo_readAtom_b132 τ := by
  unfold isB at h1
  unfold isC at h2
  have a1 : ¬ b = 84 := fun z => h1 (by simp [z])
  have a2 : ¬ b = 70 := fun z => h1 (by simp [z])
  have a3 : ¬ b = 110 := fun z => h1 (by simp [z])
  have a4 : ¬ b = 98 := fun z => h1 (by simp [z])
  have a5 : ¬ b = 99 := fun z => h1 (by simp [z])
  have a6 : ¬ b = 111 := fun z => h1 (by simp [z])
  have a7 : ¬ b = 108 := fun z => h1 (by simp [z])
  have b1 : ¬ b = 103 := fun z => h2 (by simp [z])
  have b2 : ¬ b = 102 := fun z => h2 (by simp [z])
  have b3 : ¬ b = 104 := fun z => h2 (by simp [z])
  have b4 : ¬ b = 109 := fun z => h2 (by simp [z])
  unfold Mo_readAtom_b27 Mo_readAtom_b57 Mo_readAtom_b105
  simp only [a1, a2, a3, a4, a5, a6, a7, b1, b2, b3, b4, if_false, not_false_eq_true, if_true, not_true_eq_false]
theorem tyN {b : Int32} (h1 : ¬ isB b) (h2 : ¬ isC b) (h3 : b < 48 ∨ 57 < b) : Re_typeOf b = -1 := by
  unfold isB at h1
  unfold isC at h2
  unfold Re_typeOf
  rw [if_neg (fun z => by
    rcases z with z | z | z | z | z | z | z | z
    · exact h1 (by simp [z])
    · exact h1 (by simp [z])
    · exact h1 (by simp [z])
    · exact h1 (by simp [z])
    · exact h2 (by simp [z])
    · exact h2 (by simp [z])
    · exact h2 (by simp [z])
    · exact h1 (by simp [z])), if_neg (fun z => by
    rcases z with z | z | z
    · exact h1 (by simp [z])
    · exact h2 (by simp [z])
    · exact h1 (by simp [z]))]
  by_cases h4 : b < 48
  · rw [if_pos h4]
  · rw [if_neg h4, if_pos (h3.resolve_left h4)]
theorem tyA {dg : Nat} (h : dg < 10) : Re_typeOf (nI (48 + dg)) = nI 0 ∧ Re_isNumbered (nI (48 + dg)) = 0 ∧ ¬ nI (48 + dg) = 104 ∧ ¬ nI (48 + dg) = 109 ∧ Re_constantOf (nI (48 + dg)) = nI dg ∧ nI (48 + dg) - 48 = nI dg ∧ ¬ nI (48 + dg) < 48 ∧ ¬ 57 < nI (48 + dg) := by
  rcases (show dg = 0 ∨ dg = 1 ∨ dg = 2 ∨ dg = 3 ∨ dg = 4 ∨ dg = 5 ∨ dg = 6 ∨ dg = 7 ∨ dg = 8 ∨ dg = 9 by omega) with rfl | rfl | rfl | rfl | rfl | rfl | rfl | rfl | rfl | rfl <;> decide
theorem tyB {b : Int32} (h : isB b) : ∃ t, t < 2 ∧ Re_typeOf b = nI t ∧ Re_isNumbered b = 0 ∧ ¬ b = 104 ∧ ¬ b = 109 ∧ (∀ τ, Mo_readAtom_b284 b 0 τ = some (nI (t + 1), τ)) ∧ AtEq b (Re_constantOf b) b 0 (t == 1) := by
  unfold AtEq
  rcases h with rfl | rfl | rfl | rfl | rfl | rfl | rfl
  · exact ⟨1, by omega, by decide, by decide, by decide, by decide, fun _ => rfl, Or.inr (Or.inl ⟨rfl, Or.inl ⟨rfl, by decide, rfl⟩⟩)⟩
  · exact ⟨1, by omega, by decide, by decide, by decide, by decide, fun _ => rfl, Or.inr (Or.inl ⟨rfl, Or.inr (Or.inl ⟨rfl, by decide, rfl⟩)⟩)⟩
  · exact ⟨0, by omega, by decide, by decide, by decide, by decide, fun _ => rfl, Or.inr (Or.inl ⟨rfl, Or.inr (Or.inr (Or.inl ⟨rfl, rfl⟩))⟩)⟩
  · exact ⟨1, by omega, by decide, by decide, by decide, by decide, fun _ => rfl, Or.inr (Or.inl ⟨rfl, Or.inr (Or.inr (Or.inr (Or.inr (Or.inl ⟨rfl, rfl⟩))))⟩)⟩
  · exact ⟨1, by omega, by decide, by decide, by decide, by decide, fun _ => rfl, Or.inr (Or.inl ⟨rfl, Or.inr (Or.inr (Or.inr (Or.inr (Or.inr (Or.inl ⟨rfl, rfl⟩)))))⟩)⟩
  · exact ⟨1, by omega, by decide, by decide, by decide, by decide, fun _ => rfl, Or.inr (Or.inl ⟨rfl, Or.inr (Or.inr (Or.inr (Or.inr (Or.inr (Or.inr ⟨rfl, rfl⟩)))))⟩)⟩
  · exact ⟨0, by omega, by decide, by decide, by decide, by decide, fun _ => rfl, Or.inr (Or.inl ⟨rfl, Or.inr (Or.inr (Or.inr (Or.inl ⟨rfl, rfl⟩)))⟩)⟩
theorem tyC {b : Int32} (h : isC b) : ∃ t, t < 2 ∧ Re_typeOf b = nI t ∧ ¬ Re_isNumbered b = 0 ∧ (∀ τ, Mo_readAtom_b284 b 0 τ = some (nI (t + 1), τ)) ∧ ∀ q, q < 4 → AtEq b (nI q) b (nI q) (t == 1) := by
  unfold AtEq
  rcases h with rfl | rfl | rfl | rfl
  · exact ⟨1, by omega, by decide, by decide, fun _ => rfl, fun q hq => Or.inr (Or.inr ⟨rfl, rfl, q, hq, rfl, Or.inl ⟨rfl, rfl⟩⟩)⟩
  · exact ⟨1, by omega, by decide, by decide, fun _ => rfl, fun q hq => Or.inr (Or.inr ⟨rfl, rfl, q, hq, rfl, Or.inr (Or.inl ⟨rfl, rfl⟩)⟩)⟩
  · exact ⟨1, by omega, by decide, by decide, fun _ => rfl, fun q hq => Or.inr (Or.inr ⟨rfl, rfl, q, hq, rfl, Or.inr (Or.inr (Or.inl ⟨rfl, rfl⟩))⟩)⟩
  · exact ⟨0, by omega, by decide, by decide, fun _ => rfl, fun q hq => Or.inr (Or.inr ⟨rfl, rfl, q, hq, rfl, Or.inr (Or.inr (Or.inr ⟨rfl, rfl⟩))⟩)⟩
def OutQ (p : Nat) (σ0 τ0 : Mem) (len d i a j l : Nat) (L f : Int32) (K W C N : Nat → Int32) (F : Mem) (g ty : Int32) (σ1 : Mem) : Prop :=
  (∃ ρ ty2 i1 a1, Dead p σ0 len true ρ σ1 ∧ i ≤ i1 ∧ i1 ≤ 170 ∧ Mo_readAtom (mkM τ0 i 0 g (nI d) l a f C N F) = some (ty2, mkM τ0 i1 ρ g (nI d) l a1 f C N F)) ∨
  (∃ i1 a1 P1 j1 l1 L1 f1 K1 W1 C1 N1 t e, ty = nI t ∧ σ1 = mkX p σ0 i1 0 a1 P1 j1 L1 f1 K1 W1 ∧ i1 ≤ len ∧ (f1 = 0 ∨ f1 = 1) ∧ Ex i a j l L K W C N i1 a1 j1 l1 L1 K1 W1 C1 N1 t e ∧ Mo_readAtom (mkM τ0 i 0 g (nI d) l a f C N F) = some (nI (t + 1), mkM τ0 i1 0 g (nI d) l1 a1 f1 C1 N1 F) ∧ ((σ0 16 i = 104 ∧ i + 1 < len ∧ P1 = 1 <<< ((σ0 16 (i + 1) - 48) &&& 31)) ∨ (¬ σ0 16 i = 104 ∧ P1 = 0)))
theorem f_if {b kn v f : Int32} (hf : f = 0 ∨ f = 1) : (if b = 109 then (if Ps_hasBit kn v = 0 then (0 : Int32) else f) else f) = 0 ∨ (if b = 109 then (if Ps_hasBit kn v = 0 then (0 : Int32) else f) else f) = 1 := by
  by_cases h1 : b = 109
  · rw [if_pos h1]
    by_cases h2 : Ps_hasBit kn v = 0
    · rw [if_pos h2]
      exact Or.inl rfl
    · rw [if_neg h2]
      exact hf
  · rw [if_neg h1]
    exact hf
section
variable {p : Nat} {σ0 τ0 : Mem} {len i : Nat} {a : Nat} {P : Int32} {j : Nat} {L f : Int32} {K W : Nat → Int32} {g : Int32} {l : Nat} {C N : Nat → Int32} {F : Mem} {d m : Nat} {kn : Int32}
theorem T_atom (hC : CT p σ0 τ0 len) (hP : Pre len d i a j l m f) (hi : i < len) (hK : Kn F d kn) : ∃ ty σ1, Re_atom kn (mkX p σ0 i 0 a P j L f K W) = some (ty, σ1) ∧ OutQ p σ0 τ0 len d i a j l L f K W C N F g ty σ1 := by
  have hlen := hC.2.1
  obtain ⟨p1, p2, p3, p4, p5, p6, hf⟩ := hP
  have hd : d < 8 := by omega
  have hj : j < 160 := by omega
  have hl : l < 160 := by omega
  have nz : (-10 - nI i : Int32) ≠ 0 := ne_sub (by omega) (Or.inl rfl)
  have nz1 : (-10 - nI (i + 1) : Int32) ≠ 0 := ne_sub (by omega) (Or.inl rfl)
  obtain ⟨n, hn, en⟩ := (hC.2.2.2.2.2 i hi).2
  have full : a = 12 → ∀ v1 v2 v3, Mo_readAtom (mkM τ0 i 0 g (nI d) l a f C N F) = Mo_readAtom_b120 v1 v2 v3 (mkM τ0 i 0 g (nI d) l a f C N F) → ∃ ty σ1, Re_atom kn (mkX p σ0 i 0 a P j L f K W) = some (ty, σ1) ∧ OutQ p σ0 τ0 len d i a j l L f K W C N F g ty σ1 := by
    intro ha v1 v2 v3 e
    exact ⟨_, _, cA_no hC hi (Or.inr ha), Or.inl ⟨_, _, i, a, Or.inl ⟨nz, _, _, _, _, _, _, _, _, by omega, by omega, rfl⟩, Nat.le_refl _, by omega, e.trans (M_120F ha)⟩⟩
  by_cases hdig : 48 ≤ n ∧ n ≤ 57
  · obtain ⟨dg, rfl⟩ : ∃ q, n = 48 + q := ⟨n - 48, by omega⟩
    have hdg : dg < 10 := by omega
    obtain ⟨y1, y2, y3, y4, y5, y6, y7, y8⟩ := tyA hdg
    have er : Mo_readAtom (mkM τ0 i 0 g (nI d) l a f C N F) = Mo_readAtom_b120 (nI (48 + dg)) 1 0 (mkM τ0 i 0 g (nI d) l a f C N F) := by
      rw [M_rA hC hi (z := 1) (Or.inr ⟨rfl, by rw [en]; exact y7, by rw [en]; exact y8⟩), en, h27A hdg]
    rcases (show a = 12 ∨ a < 12 by omega) with ha | ha
    · exact full ha _ _ _ er
    · have hc := cA_pl (kn := kn) (P := P) (L := L) (f := f) (K := K) (W := W) hC hi ha hj (t := 0) (by rw [en]; exact y1) (by omega) (by rw [en]; exact y2)
      rw [en, y5, if_neg y3, if_neg y4] at hc
      refine ⟨_, _, hc, Or.inr ⟨i + 1, a + 1, 0, j + 1, l + 1, _, f, _, _, upR1 C l 0, upR1 N l (nI dg), 0, dAt (nI (48 + dg)) (nI dg), rfl, rfl, hi, hf, Ex_at (Or.inl ⟨dg, hdg, rfl, rfl, rfl, rfl, rfl⟩) (by omega) ha (by omega), ?_, Or.inr ⟨by rw [en]; exact y3, rfl⟩⟩⟩
      rw [er, M_120 ha, if_neg (by decide), y6]
      unfold Mo_readAtom_b175 Mo_readAtom_b228
      rw [if_pos rfl, if_neg (by decide), M_238 hl hd hK hf (t := 0) (fun τ => rfl), if_neg y4]
  · have hlo : σ0 16 i < 48 ∨ 57 < σ0 16 i := by
      rw [en]
      rcases (show n < 48 ∨ 57 < n by omega) with h | h
      · exact Or.inl (nI_lt (b := 48) h (by omega))
      · exact Or.inr (nI_lt (a := 57) h (by omega))
    have er0 := M_rA (g := g) (d := d) (l := l) (a := a) (f := f) (C := C) (N := N) (F := F) hC hi (z := 0) (Or.inl ⟨rfl, hlo⟩)
    by_cases hB : isB (σ0 16 i)
    · have er := er0.trans (h27B hB _)
      rcases (show a = 12 ∨ a < 12 by omega) with ha | ha
      · exact full ha _ _ _ er
      · obtain ⟨t, y0, y1, y2, y3, y4, y5, y6⟩ := tyB hB
        have hc := cA_pl (kn := kn) (P := P) (L := L) (f := f) (K := K) (W := W) hC hi ha hj y1 y0 y2
        rw [if_neg y3, if_neg y4] at hc
        refine ⟨_, _, hc, Or.inr ⟨i + 1, a + 1, 0, j + 1, l + 1, _, f, _, _, upR1 C l (σ0 16 i), upR1 N l 0, t, dAt (σ0 16 i) (Re_constantOf (σ0 16 i)), rfl, rfl, hi, hf, Ex_at y6 y0 ha (by omega), ?_, Or.inr ⟨y3, rfl⟩⟩⟩
        rw [er, M_120 ha, if_pos rfl]
        unfold Mo_readAtom_b175 Mo_readAtom_b228
        rw [if_pos rfl, if_pos rfl, M_238 hl hd hK hf y5, if_neg y4]
    · by_cases hCc : isC (σ0 16 i)
      · have er := er0.trans (h27C hCc _)
        rcases (show a = 12 ∨ a < 12 by omega) with ha | ha
        · exact full ha _ _ _ er
        · obtain ⟨t, y0, y1, y2, y3, y4⟩ := tyC hCc
          rw [cA_nu hC hi ha y1 y0 y2]
          rw [M_120 ha, if_pos rfl] at er
          unfold Mo_readAtom_b175 at er
          rw [if_neg (by decide)] at er
          unfold Re_digit
          have hdd : Dead p σ0 len true (-10 - nI (i + 1)) (mkX p σ0 (i + 1) (-10 - nI (i + 1)) (a + 1) 0 j L f K W) := Or.inl ⟨nz1, _, _, _, _, _, _, _, _, by omega, by omega, rfl⟩
          obtain ⟨ty, σ1, e2, h2⟩ := cD_73 (kn := kn) hC hdd (σ0 16 i) (nI t) 0
          rcases (show i + 1 = len ∨ i + 1 < len by omega) with h1 | h1
          · rw [h1, r_nxE hC, Option.bind_some, if_neg (fun z => z (by decide)), r_rb len rfl, Option.bind_some, Option.bind_some]
            refine ⟨ty, σ1, ?_, Or.inl ⟨_, 0, i + 1, a + 1, h2, by omega, by omega, ?_⟩⟩
            · rw [← e2, h1]
            · rw [er, h1, M_hereE hC, Option.bind_some, if_pos (show (-1 : Int32) < 48 by decide)]
              show Mo_readAtom_b201 (mkM τ0 len (-10 - nI len) g (nI d) l (a + 1) f C N F) = _
              unfold Mo_readAtom_b201
              rw [M_i, M_blameR _ (ne_sub (by omega) (Or.inl rfl)), Option.bind_some]
          · obtain ⟨n2, hn2, en2⟩ := (hC.2.2.2.2.2 (i + 1) h1).2
            rw [r_nx hC h1, Option.bind_some]
            rw [M_here hC h1, Option.bind_some] at er
            rcases isOne_t hn2 with ⟨z1, z2⟩ | ⟨q, hq, e3, z1, z2⟩
            · rw [en2, if_neg (fun z => z z1), r_rb (i + 1) rfl, Option.bind_some, Option.bind_some]
              refine ⟨ty, σ1, e2, Or.inl ⟨_, 0, i + 1, a + 1, h2, by omega, by omega, ?_⟩⟩
              have eb : Mo_readAtom_b201 (mkM τ0 (i + 1) 0 g (nI d) l (a + 1) f C N F) = some (0, mkM τ0 (i + 1) (-10 - nI (i + 1)) g (nI d) l (a + 1) f C N F) := by
                unfold Mo_readAtom_b201
                rw [M_i, M_blame, Option.bind_some]
              rw [er]
              show (if σ0 16 (i + 1) < 48 then Mo_readAtom_b201 (mkM τ0 (i + 1) 0 g (nI d) l (a + 1) f C N F) else if σ0 16 (i + 1) ≤ 51 then _ else Mo_readAtom_b201 (mkM τ0 (i + 1) 0 g (nI d) l (a + 1) f C N F)) = _
              rw [en2]
              rcases z2 with z2 | z2
              · rw [if_pos (show nI n2 < 48 from nI_lt (b := 48) z2 (by omega))]
                exact eb
              · rw [if_neg (show ¬ nI n2 < 48 from nI_nlt (b := 48) (by omega) (by omega)), if_neg (show ¬ nI n2 ≤ 51 from nI_ge (a := 51) z2 (by omega))]
                exact eb
            · have e4 : σ0 16 (i + 1) - 48 = nI q := by rw [en2]; exact z2
              rw [e4, if_pos (by rw [← e4, en2]; exact z1), Option.bind_some, x_pos, nI_1, x_p3]
              show ∃ ty σ1, Re_atom_b73 kn (σ0 16 i) (nI t) (nI q) (mkX p σ0 (i + 1 + 1) 0 (a + 1) 0 j L f K W) = some (ty, σ1) ∧ _
              rw [cA_b73 hC hj]
              refine ⟨_, _, rfl, Or.inr ⟨i + 2, a + 1, _, j + 1, l + 1, _, _, _, _, upR1 C l (σ0 16 i), upR1 N l (nI q), t, dAt (σ0 16 i) (nI q), rfl, rfl, h1, f_if hf, Ex_at (y4 q hq) y0 ha (by omega), ?_, ?_⟩⟩
              · rw [er]
                show (if σ0 16 (i + 1) < 48 then Mo_readAtom_b201 (mkM τ0 (i + 1) 0 g (nI d) l (a + 1) f C N F) else if σ0 16 (i + 1) ≤ 51 then Mo_readAtom_b228 (σ0 16 i) 0 (σ0 16 (i + 1) - 48) (mput (mkM τ0 (i + 1) 0 g (nI d) l (a + 1) f C N F) 0 14 (nI (i + 1) + 1)) else Mo_readAtom_b201 (mkM τ0 (i + 1) 0 g (nI d) l (a + 1) f C N F)) = _
                rw [e4, en2, if_neg (show ¬ nI n2 < 48 from nI_nlt (b := 48) (by omega) (by omega)), if_pos (show nI n2 ≤ 51 from nI_le (b := 51) (by omega) (by omega)), nI_1, M_p14]
                unfold Mo_readAtom_b228
                rw [if_pos rfl, M_238 hl hd hK hf y3]
              · by_cases h4 : σ0 16 i = 104
                · exact Or.inl ⟨h4, h1, by rw [if_pos h4, e4]⟩
                · exact Or.inr ⟨h4, if_neg h4⟩
      · refine ⟨_, _, cA_no hC hi (Or.inl (tyN hB hCc hlo)), Or.inl ⟨_, 0, i, a, Or.inl ⟨nz, _, _, _, _, _, _, _, _, by omega, by omega, rfl⟩, Nat.le_refl _, by omega, ?_⟩⟩
        rw [er0, h27N hB hCc]
        unfold Mo_readAtom_b132
        rw [M_i, M_blame, Option.bind_some]
end
