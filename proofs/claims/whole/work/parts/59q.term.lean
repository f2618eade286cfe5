section
variable {p : Nat} {σ0 τ0 : Mem} {len : Nat} {k5 : Int32 → Mem → Option Mem} {rc rc2 : Nat → Int32 → Int32 → Mem → Option (Int32 × Mem)} {d : Nat}
theorem T4d (hC : CT p σ0 τ0 len) {b : Bool} {ρ : Int32} {σ : Mem} (h : Dead p σ0 len b ρ σ) (x y : Int32) : ∃ ty σ1, Re_term rc x y σ = some (ty, σ1) ∧ Dead p σ0 len true ρ σ1 := by
  obtain ⟨σ1, e1, h1⟩ := dd_rb hC (dd_p6 h 0)
  refine ⟨0, σ1, ?_, h1⟩
  unfold Re_term
  rw [dd_nx hC h, Option.bind_some, if_neg (by decide), if_neg (by decide), if_neg (by decide)]
  unfold Re_atom
  rw [dd_nx hC h, Option.bind_some, if_pos (by decide)]
  unfold Re_atom_b29
  rw [e1]
  rfl
theorem bP (x : Option (Int32 × Mem)) : (x.bind fun q => some (q.1, q.2)) = x := by cases x <;> rfl
theorem T_term (hC : CT p σ0 τ0 len) (h5 : d < 6 → ∀ x y σ, rc 5 x y σ = Re_not rc2 x y σ) (h6 : d < 6 → ∀ x y σ, rc 6 x y σ = Re_bracketed rc2 x y σ) (h7 : d < 6 → ∀ x y σ, rc 7 x y σ = Re_choice rc2 x y σ) (hT : d < 6 → TermP p σ0 τ0 len k5 (rc2 4) (d + 1)) (hA : d < 6 → AltP p σ0 τ0 len k5 (rc2 0) (d + 1)) (hD : d < 6 → DeadP p σ0 len rc2 0) : TermP p σ0 τ0 len k5 (Re_term rc) d := by
  intro kn i a P j L f K W l C N F g m nf G hP hnf hK hG
  have hlen := hC.2.1
  have hd6 := hP.1
  have hi0 := hP.2.1
  have hj : j < 160 := by have := hP.2.2.1; omega
  have hl : l < 160 := by have := hP.2.2.1; have := hP.2.2.2.1; omega
  have hm : 1 ≤ m := by have := hP.2.2.2.2.2.1; omega
  obtain ⟨m0, hm0⟩ : ∃ q, m = q + 1 := ⟨m - 1, by omega⟩
  obtain ⟨n, rfl⟩ : ∃ q, nf = q + 2 := ⟨nf - 2, by omega⟩
  rcases (show i = len ∨ i < len by omega) with hi | hi
  · subst hi
    have hdd : Dead p σ0 i false (-10 - nI i) (mkX p σ0 i 0 a P j L f K W) := Or.inr ⟨rfl, rfl, _, _, _, _, _, _, _, by omega, rfl⟩
    obtain ⟨ty, σ1, e1, h1⟩ := T4d (rc := rc) hC hdd (nI d) kn
    rw [RT_E hC, Option.bind_some, hG _ _ _ _ _ _ _ _ _ _ (Nat.le_refl _) (by omega) (by omega)]
    refine ⟨ty, σ1, e1, Or.inl ?_⟩
    subst hm0
    exact outR_i h1 (by omega) (L_ref 0 (dd_ne hC h1))
  · rw [RT_k hC hi]
    unfold Re_term
    rw [r_nx hC hi, Option.bind_some]
    have nz : (-10 - nI i : Int32) ≠ 0 := ne_sub (by omega) (Or.inl rfl)
    have hsix : ∀ s b : Int32, d = 6 → ¬ s = 0 → ∃ ty σ1, Re_term_b29 rc (nI d) kn b (mkX p σ0 i 0 a P j L f K W) = some (ty, σ1) ∧ OutT p σ0 τ0 len k5 d m i a j l L K W C N F g ty σ1 ((Mo_readTerm_b49 (Mo_readTerm_b2 (n + 1)) 1 s (mkM τ0 i 0 g (nI d) l a f C N F)).bind G) := by
      intro s b e6 hs
      subst e6
      unfold Re_term_b29
      rw [if_neg (fun z => z rfl), r_rb i rfl, Option.bind_some, RT_6 hs (by omega), Option.bind_some, hG _ _ _ _ _ _ _ _ _ _ (Nat.le_refl _) (by omega) (by omega)]
      refine ⟨_, _, rfl, Or.inl ?_⟩
      subst hm0
      exact outR_i (Or.inl ⟨nz, _, _, _, _, _, _, _, _, by omega, by omega, rfl⟩) (by omega) (L_ref 0 nz)
    have n6 : d < 6 → ¬ nI d = 6 := fun h z => by
      have := (nI_eq (b := 6) (by omega) (by omega)).mp z
      omega
    by_cases h33 : σ0 16 i = 33
    · rw [if_pos h33, if_pos h33]
      rcases (show d = 6 ∨ d < 6 by omega) with e6 | hd
      · exact hsix 4 (σ0 16 i) e6 (by decide)
      · unfold Re_term_b29
        rw [if_pos (n6 hd), r_tk hC hi rfl, Option.bind_some, if_pos h33, nI_1, h5 hd, bP, RT_o (by decide) hd hK, if_pos rfl]
        exact T_not hC (hT hd) hd hP hi hK hG (by omega)
    · rw [if_neg h33, if_neg h33]
      by_cases h40 : σ0 16 i = 40
      · rw [if_pos h40, if_pos h40]
        rcases (show d = 6 ∨ d < 6 by omega) with e6 | hd
        · exact hsix 2 (σ0 16 i) e6 (by decide)
        · unfold Re_term_b29
          rw [if_pos (n6 hd), r_tk hC hi rfl, Option.bind_some, if_neg h33, if_pos h40, nI_1, h6 hd, bP, RT_o (by decide) hd hK, if_neg (show ¬ (2 : Int32) = 4 by decide)]
          exact T_par hC (hA hd) hd hP hi hG (by omega)
      · rw [if_neg h40, if_neg h40]
        by_cases h91 : σ0 16 i = 91
        · rw [if_pos h91, if_pos h91]
          rcases (show d = 6 ∨ d < 6 by omega) with e6 | hd
          · exact hsix 3 (σ0 16 i) e6 (by decide)
          · unfold Re_term_b29
            rw [if_pos (n6 hd), r_tk hC hi rfl, Option.bind_some, if_neg h33, if_neg h40, nI_1, h7 hd, bP, RT_o (by decide) hd hK, if_neg (show ¬ (3 : Int32) = 4 by decide)]
            exact T_chc hC (hA hd) (hD hd) hd hP hi hG (by omega)
        · rw [if_neg h91, if_neg h91, bP]
          obtain ⟨ty, σ1, e1, o⟩ := T_atom (P := P) (L := L) (K := K) (W := W) (g := g) (C := C) (N := N) hC hP hi hK
          refine ⟨ty, σ1, e1, ?_⟩
          have hk0 : ∀ q, Mo_readTerm_b2 (n + 1) 0 q = some q := fun q => by rw [Mo_readTerm_b2, if_pos rfl]
          have hx : (mkM τ0 i 0 g (nI d) l a f C N F) 0 14 = nI i := rfl
          unfold Mo_readTerm_b49
          rw [M_ρ, if_pos rfl, if_neg (fun z => z rfl), hx]
          rcases o with ⟨ρ, ty2, i1, a1, o1, o2, o3, o4⟩ | ⟨i1, a1, P1, j1, l1, L1, f1, K1, W1, C1, N1, t, e, rfl, rfl, b1, b2, b3, b4, b5⟩
          · have hρ := dd_ne hC o1
            rw [o4, Option.bind_some]
            show OutT p σ0 τ0 len k5 d m i a j l L K W C N F g ty σ1 ((if ¬ (mkM τ0 i1 ρ g (nI d) l a1 f C N F) 0 15 = 0 then Mo_readTerm_b2 (n + 1) 0 (mkM τ0 i1 ρ g (nI d) l a1 f C N F) else _).bind G)
            rw [M_ρ, if_pos hρ, hk0, Option.bind_some, hG _ _ _ _ _ _ _ _ _ _ o2 o3 (by omega)]
            subst hm0
            exact Or.inl (outR_i o1 (by omega) (L_ref 0 hρ))
          · have hi1 : i < i1 := b3.1.1
            have htx : τ0 5 i = σ0 16 i := ((hC.2.2.2.2.2 i hi).1).symm
            rw [b4, Option.bind_some]
            have key : ((if ¬ (mkM τ0 i1 0 g (nI d) l1 a1 f1 C1 N1 F) 0 15 = 0 then Mo_readTerm_b2 (n + 1) 0 (mkM τ0 i1 0 g (nI d) l1 a1 f1 C1 N1 F) else if pmIn (nI i) 160 = true then (if ¬ (mkM τ0 i1 0 g (nI d) l1 a1 f1 C1 N1 F) 5 (nI i).toNatClampNeg = 104 then Mo_readTerm_b113 (Mo_readTerm_b2 (n + 1)) 0 (nI i) (nI (t + 1)) 0 (mkM τ0 i1 0 g (nI d) l1 a1 f1 C1 N1 F) else if pmIn (nI i + 1) 160 = true then Mo_readTerm_b113 (Mo_readTerm_b2 (n + 1)) 0 (nI i) (nI (t + 1)) (1 <<< ((((mkM τ0 i1 0 g (nI d) l1 a1 f1 C1 N1 F) 5 (nI i + 1).toNatClampNeg) - 48) &&& 31)) (mkM τ0 i1 0 g (nI d) l1 a1 f1 C1 N1 F) else none) else none) : Option Mem) = Mo_endTerm_b9 FU (nI (t + 1)) P1 (nI i) (mkM τ0 i1 0 g (nI d) l1 a1 f1 C1 N1 F) := by
              rw [M_ρ, if_neg (fun z => z rfl), if_pos (pmIn_nI (by omega) n31), M_x, nI_clamp (by omega), htx, nI_1]
              have e113 : ∀ s, Mo_readTerm_b113 (Mo_readTerm_b2 (n + 1)) 0 (nI i) (nI (t + 1)) s (mkM τ0 i1 0 g (nI d) l1 a1 f1 C1 N1 F) = Mo_endTerm_b9 FU (nI (t + 1)) s (nI i) (mkM τ0 i1 0 g (nI d) l1 a1 f1 C1 N1 F) := fun s => by
                unfold Mo_readTerm_b113 Mo_endTerm
                rw [show (fun q122 => Mo_readTerm_b2 (n + 1) 0 q122) = (fun q => some q) from funext hk0, bS]
              rcases b5 with ⟨c1, c2, c3⟩ | ⟨c1, c2⟩
              · have htx2 : τ0 5 (i + 1) = σ0 16 (i + 1) := ((hC.2.2.2.2.2 (i + 1) c2).1).symm
                rw [if_neg (fun z => z c1), if_pos (pmIn_nI (by omega) n31), nI_clamp (by omega), htx2, e113, c3]
              · rw [if_pos c1, e113, c2]
            refine Or.inr ⟨i1, a1, P1, j1, l1, L1, f1, K1, W1, C1, N1, F, t, e, m, FU, G, rfl, rfl, b1, by omega, by unfold FU; omega, b2, b3, fun c u _ _ => rfl, Gd_up hG (by omega), ?_⟩
            exact congrArg (fun z => Option.bind z G) key
theorem rc4 (n : Nat) : Re_rc (n + 1) 4 = Re_term (Re_rc n) := by funext a b σ; rfl
theorem rc3 (n : Nat) : Re_rc (n + 1) 3 = Re_sum (Re_rc n) := by funext a b σ; rfl
theorem rc2_ (n : Nat) : Re_rc (n + 1) 2 = Re_comparison (Re_rc n) := by funext a b σ; rfl
theorem rc1 (n : Nat) : Re_rc (n + 1) 1 = Re_ands (Re_rc n) := by funext a b σ; rfl
theorem rc0 (n : Nat) : Re_rc (n + 1) 0 = Re_alternatives (Re_rc n) := by funext a b σ; rfl
theorem T_alts (hC : CT p σ0 τ0 len) {n : Nat} (h : TermP p σ0 τ0 len k5 (Re_rc (n + 1) 4) d) : AltP p σ0 τ0 len k5 (Re_rc (n + 5) 0) d := by
  have s : SumP p σ0 τ0 len k5 (Re_rc (n + 2) 3) d := by
    rw [rc3 (n + 1)]
    exact T_sum hC h (dp4 hC n)
  have c : CmpP p σ0 τ0 len k5 (Re_rc (n + 3) 2) d := by
    rw [rc2_ (n + 2)]
    exact T_cmp hC s (dp3 hC n)
  have a : AndP p σ0 τ0 len k5 (Re_rc (n + 4) 1) d := by
    rw [rc1 (n + 3)]
    exact T_and hC c (dp2 hC n)
  rw [rc0 (n + 4)]
  exact T_alt hC a (dp1 hC n)
theorem T_all (hC : CT p σ0 τ0 len) : ∀ (q d n : Nat), d + q = 6 → 6 * q + 1 ≤ n → TermP p σ0 τ0 len k5 (Re_rc n 4) d
  | 0, d, n, e, hn => by
    obtain ⟨n, rfl⟩ : ∃ z, n = z + 1 := ⟨n - 1, by omega⟩
    rw [rc4]
    exact T_term (rc2 := Re_rc n) hC (fun h => by omega) (fun h => by omega) (fun h => by omega) (fun h => by omega) (fun h => by omega) (fun h => by omega)
  | q + 1, d, n, e, hn => by
    obtain ⟨n, rfl⟩ : ∃ z, n = z + 7 := ⟨n - 7, by omega⟩
    rw [rc4 (n + 6)]
    exact T_term (rc2 := Re_rc (n + 5)) hC (fun _ _ _ _ => rfl) (fun _ _ _ _ => rfl) (fun _ _ _ _ => rfl) (fun _ => T_all hC q (d + 1) (n + 5) (by omega) (by omega)) (fun _ => T_alts hC (T_all hC q (d + 1) (n + 1) (by omega) (by omega))) (fun _ => dp0 hC n)
theorem T_top (hC : CT p σ0 τ0 len) : AltP p σ0 τ0 len k5 (Re_rc 64 0) 0 := T_alts (n := 59) hC (T_all hC 6 0 60 (by omega) (by omega))
end
