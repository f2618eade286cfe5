def oF (F : Mem) (t : Nat) (s : Int32) (i : Nat) : Mem := mput (mput (mput F 14 t s) 15 t (nI i)) 16 t 0
section
variable {p : Nat} {σ0 τ0 : Mem} {len i : Nat} {ρ g top : Int32} {l a : Nat} {f : Int32} {C N : Nat → Int32} {F : Mem} {e : Nat} {b : Int32}
theorem bS {α : Type} (x : Option α) : (x.bind fun q => some q) = x := by cases x <;> rfl
theorem row84 (he : e < 8) : Mo_endRow_b84 (nI e) b (mkM τ0 i 0 g top l a f C N F) = (if (-1000 - F 36 e : Int32) = 0 then Mo_endRow_b94 (nI e) b (mkM τ0 i 0 g top l a f C N F) else some (mkM τ0 i (-1000 - F 36 e) g top l a f C N F)) := by
  have q : pmIn (nI e) 8 = true := pmIn_nI he (by omega)
  have q2 : (nI e).toNatClampNeg = e := nI_clamp (by omega)
  unfold Mo_endRow_b84
  simp only [q, q2, if_true, M_F (c := 36) (by omega), M_wt, Option.bind_some]
  by_cases h : (-1000 - F 36 e : Int32) = 0
  · rw [if_pos h, h]
  · rw [if_neg h, dR94 h he]
theorem row141 {s : Int32} (hi : i < 2 ^ 20) : Mo_endRow_b141 (nI e) b s (mkM τ0 i 0 g top l a f C N F) = if b = s then Mo_endRow_b157 (nI e) (mkM τ0 i 0 g top l a f C N F) else some (mkM τ0 i (-10 - nI i) g top l a f C N F) := by
  unfold Mo_endRow_b141
  rw [M_i, M_blame, Option.bind_some, dR157 (ne_sub hi (Or.inl rfl))]
theorem row_par (he : e < 8) (h14 : F 14 e = 2) : Mo_endRow (nI e) b (mkM τ0 i ρ g top l a f C N F) = Mo_endRow_b141 (nI e) b 41 (mkM τ0 i ρ g top l a f C N F) := by
  have q : pmIn (nI e) 8 = true := pmIn_nI he (by omega)
  have q2 : (nI e).toNatClampNeg = e := nI_clamp (by omega)
  unfold Mo_endRow Mo_endRow_b33 Mo_endRow_b29 Mo_endRow_b34 Mo_endRow_b49 Mo_endRow_b94
  simp only [q, q2, if_true, M_F (c := 14) (by omega), h14]
  simp
theorem row_brc (he : e < 8) (h14 : F 14 e = 1) : Mo_endRow (nI e) b (mkM τ0 i ρ g top l a f C N F) = if F 37 e = 2 then Mo_endRow_b141 (nI e) b 125 (mkM τ0 i ρ g top l a f C N F) else Mo_endRow_b84 (nI e) b (mkM τ0 i ρ g top l a f C N F) := by
  have q : pmIn (nI e) 8 = true := pmIn_nI he (by omega)
  have q2 : (nI e).toNatClampNeg = e := nI_clamp (by omega)
  unfold Mo_endRow Mo_endRow_b33 Mo_endRow_b29 Mo_endRow_b34 Mo_endRow_b49 Mo_endRow_b94
  simp only [q, q2, if_true, M_F (c := 14) (by omega), M_F (c := 37) (by omega), h14]
  by_cases h : F 37 e = 2
  · simp [h]
  · simp [h]
theorem row_c0 (he : e < 8) (h14 : F 14 e = 3) (h16 : F 16 e = 0) : Mo_endRow (nI e) b (mkM τ0 i ρ g top l a f C N F) = if F 37 e = 2 then Mo_endRow_b141 (nI e) b 58 (mkM τ0 i ρ g top l a f C N F) else Mo_endRow_b84 (nI e) b (mkM τ0 i ρ g top l a f C N F) := by
  have q : pmIn (nI e) 8 = true := pmIn_nI he (by omega)
  have q2 : (nI e).toNatClampNeg = e := nI_clamp (by omega)
  have z1 : ¬ (3 : Int32) = 1 := by decide
  have z2 : ¬ (3 : Int32) = 2 := by decide
  have z3 : ¬ (2 : Int32) ≤ 0 := by decide
  have z4 : ¬ (0 : Int32) = 2 := by decide
  have z5 : ¬ (1 : Int32) = 0 := by decide
  unfold Mo_endRow Mo_endRow_b33 Mo_endRow_b29 Mo_endRow_b34 Mo_endRow_b49 Mo_endRow_b94
  by_cases h : F 37 e = 2
  · simp only [q, q2, if_true, M_F (c := 14) (by omega), M_F (c := 16) (by omega), M_F (c := 37) (by omega), h14, h16, h, z1, z2, z3, z4, z5, if_false, not_true_eq_false, not_false_eq_true]
  · simp only [q, q2, if_true, M_F (c := 14) (by omega), M_F (c := 16) (by omega), M_F (c := 37) (by omega), h14, h16, h, z1, z2, z3, z4, z5, if_false, not_true_eq_false, not_false_eq_true]
theorem row_c1 (he : e < 8) (h14 : F 14 e = 3) (h16 : F 16 e = 1) : Mo_endRow (nI e) b (mkM τ0 i ρ g top l a f C N F) = Mo_endRow_b141 (nI e) b 58 (mkM τ0 i ρ g top l a f C N F) := by
  have q : pmIn (nI e) 8 = true := pmIn_nI he (by omega)
  have q2 : (nI e).toNatClampNeg = e := nI_clamp (by omega)
  have z1 : ¬ (3 : Int32) = 1 := by decide
  have z2 : ¬ (3 : Int32) = 2 := by decide
  have z3 : ¬ (2 : Int32) ≤ 1 := by decide
  have z4 : ¬ (1 : Int32) = 2 := by decide
  have z5 : ¬ (1 : Int32) = 0 := by decide
  unfold Mo_endRow Mo_endRow_b33 Mo_endRow_b29 Mo_endRow_b34 Mo_endRow_b49 Mo_endRow_b94
  simp only [q, q2, if_true, M_F (c := 14) (by omega), M_F (c := 16) (by omega), M_F (c := 37) (by omega), h14, h16, z1, z2, z3, z4, z5, if_false, not_true_eq_false, not_false_eq_true]
theorem row_c2 (he : e < 8) (h14 : F 14 e = 3) (h16 : F 16 e = 2) : Mo_endRow (nI e) b (mkM τ0 i ρ g top l a f C N F) = if F 37 e = F 17 e then Mo_endRow_b141 (nI e) b 93 (mkM τ0 i ρ g top l a f C N F) else Mo_endRow_b84 (nI e) b (mkM τ0 i ρ g top l a f C N F) := by
  have q : pmIn (nI e) 8 = true := pmIn_nI he (by omega)
  have q2 : (nI e).toNatClampNeg = e := nI_clamp (by omega)
  have z1 : ¬ (3 : Int32) = 1 := by decide
  have z2 : ¬ (3 : Int32) = 2 := by decide
  have z3 : (2 : Int32) ≤ 2 := by decide
  have z4 : ¬ (2 : Int32) = 0 := by decide
  unfold Mo_endRow Mo_endRow_b33 Mo_endRow_b29 Mo_endRow_b34 Mo_endRow_b49 Mo_endRow_b94
  simp only [q, q2, if_true, M_F (c := 14) (by omega), M_F (c := 16) (by omega), M_F (c := 37) (by omega), M_F (c := 17) (by omega), h14, h16, z1, z2, z3, z4, if_false, not_true_eq_false, not_false_eq_true]
theorem R157_par (he : e + 1 < 8) (h14 : F 14 (e + 1) = 2) : Mo_endRow_b157 (nI (e + 1)) (mkM τ0 i 0 g (nI (e + 1)) l a f C N F) = Mo_endTerm_b9 FU (F 37 (e + 1)) (F 38 (e + 1)) (F 15 (e + 1)) (mkM τ0 (i + 1) 0 g (nI e) l a f C N F) := by
  have q : pmIn (nI (e + 1)) 8 = true := pmIn_nI he (by omega)
  have q2 : (nI (e + 1)).toNatClampNeg = e + 1 := nI_clamp (by omega)
  have z1 : ¬ (2 : Int32) = 1 := by decide
  unfold Mo_endRow_b157 Mo_endTerm
  simp only [q, q2, if_true, M_ρ, M_i, nI_1, M_p14, M_t, nI_pred, M_p17, M_F (c := 14) (by omega), M_F (c := 15) (by omega), M_F (c := 37) (by omega), M_F (c := 38) (by omega), h14, z1, if_false, not_true_eq_false, not_false_eq_true, bS]
theorem R157_c0 (he : e < 8) (h14 : F 14 e = 3) (h16 : F 16 e = 0) (hl : l < 160) : Mo_endRow_b157 (nI e) (mkM τ0 i 0 g (nI e) l a f C N F) = Mo_readTerm_b2 FU 1 (mkM τ0 (i + 1) 0 g (nI e) (l + 1) a f (upR1 C l 3) (upR1 N l (-1)) (bR (mput (mput (mput F 18 e (F 38 e)) 21 e (nI l)) 16 e 1) e (F 20 e ||| F 38 e))) := by
  have q : pmIn (nI e) 8 = true := pmIn_nI he (by omega)
  have q2 : (nI e).toNatClampNeg = e := nI_clamp (by omega)
  have q3 : pmIn 16 17 = true := by decide
  have z1 : ¬ (3 : Int32) = 1 := by decide
  have z2 : ¬ (3 : Int32) = 2 := by decide
  have e1 : ∀ x y z, mput (mput (mput F 18 e x) 21 e y) 16 e z 20 e = F 20 e := fun x y z => by rw [mput_ne (by omega), mput_ne (by omega), mput_ne (by omega)]
  have e2 : ∀ x y z, mput (mput (mput F 18 e x) 21 e y) 16 e z 18 e = x := fun x y z => by rw [mput_ne (by omega), mput_ne (by omega), mput_eq]
  unfold Mo_endRow_b157 Mo_readTerm
  simp only [q, q2, q3, if_true, M_ρ, M_i, nI_1, M_p14, M_F (c := 14) (by omega), M_F (c := 16) (by omega), M_F (c := 38) (by omega), M_F (c := 20) (by omega), M_F (c := 18) (by omega), h14, h16, z1, z2, if_false, not_true_eq_false, not_false_eq_true, bS, M_pF (c := 18) (by omega), M_emit hl, Option.bind_some, M_l, nI_pred, M_pF (c := 21) (by omega), M_pF (c := 16) (by omega), e1, e2, M_bRow he]
theorem R157_c1 (he : e < 8) (h14 : F 14 e = 3) (h16 : F 16 e = 1) (hl : l < 160) {q : Nat} (hq : q < l) (h21 : F 21 e = nI q) (hN : N q = -1) : Mo_endRow_b157 (nI e) (mkM τ0 i 0 g (nI e) l a f C N F) = Mo_readTerm_b2 FU 1 (mkM τ0 (i + 1) 0 g (nI e) (l + 1) a f (upR1 C l 4) (pt (upR1 N l (-1)) [q] (nI (l + 1))) (bR (mput (mput (mput (mput F 19 e (F 38 e)) 17 e (F 37 e)) 22 e (nI l)) 16 e 2) e (F 20 e))) := by
  have q1 : pmIn (nI e) 8 = true := pmIn_nI he (by omega)
  have q2 : (nI e).toNatClampNeg = e := nI_clamp (by omega)
  have q3 : pmIn 16 17 = true := by decide
  have z1 : ¬ (3 : Int32) = 1 := by decide
  have z2 : ¬ (3 : Int32) = 2 := by decide
  have z3 : ¬ (1 : Int32) = 0 := by decide
  have e0 : ∀ x, mput F 19 e x 37 e = F 37 e := fun x => mput_ne (by omega)
  have e1 : ∀ x y z, mput (mput (mput F 19 e x) 17 e y) 22 e z 21 e = nI q := fun x y z => by rw [mput_ne (by omega), mput_ne (by omega), mput_ne (by omega), h21]
  have e2 : ∀ x y z w, mput (mput (mput (mput F 19 e x) 17 e y) 22 e z) 16 e w 20 e = F 20 e := fun x y z w => by rw [mput_ne (by omega), mput_ne (by omega), mput_ne (by omega), mput_ne (by omega)]
  have hk : Lk (upR1 N l (-1)) 0 (l + 1) (nI q) [q] := ⟨rfl, by omega, by omega, by rw [up_ne (by omega)]; exact hN⟩
  unfold Mo_endRow_b157 Mo_readTerm
  simp only [q1, q2, q3, if_true, M_ρ, M_i, nI_1, M_p14, M_F (c := 14) (by omega), M_F (c := 16) (by omega), M_F (c := 38) (by omega), M_F (c := 37) (by omega), M_F (c := 20) (by omega), M_F (c := 21) (by omega), h14, h16, z1, z2, z3, if_false, not_true_eq_false, not_false_eq_true, bS, M_pF (c := 19) (by omega), M_pF (c := 17) (by omega), M_emit hl, Option.bind_some, M_l, nI_pred, M_pF (c := 22) (by omega), e0, e1, M_patch hk (show l + 1 ≤ 160 by omega), M_pF (c := 16) (by omega), e2, M_bRow he]
theorem R157_c2 (he : e + 1 < 8) (h14 : F 14 (e + 1) = 3) (h16 : F 16 (e + 1) = 2) {q : Nat} (hl : l ≤ 160) (hq : q < l) (h22 : F 22 (e + 1) = nI q) (hN : N q = -1) : Mo_endRow_b157 (nI (e + 1)) (mkM τ0 i 0 g (nI (e + 1)) l a f C N F) = Mo_endTerm_b9 FU (F 37 (e + 1)) ((F 18 (e + 1) ||| F 19 (e + 1)) &&& F 38 (e + 1)) (F 15 (e + 1)) (mkM τ0 (i + 1) 0 g (nI e) l a f C (pt N [q] (nI l)) F) := by
  have q1 : pmIn (nI (e + 1)) 8 = true := pmIn_nI he (by omega)
  have q2 : (nI (e + 1)).toNatClampNeg = e + 1 := nI_clamp (by omega)
  have z1 : ¬ (3 : Int32) = 1 := by decide
  have z2 : ¬ (3 : Int32) = 2 := by decide
  have z3 : ¬ (2 : Int32) = 0 := by decide
  have z4 : ¬ (2 : Int32) = 1 := by decide
  have hk : Lk N 0 l (nI q) [q] := ⟨rfl, by omega, hq, hN⟩
  unfold Mo_endRow_b157 Mo_endTerm
  simp only [q1, q2, if_true, M_ρ, M_i, nI_1, M_p14, M_t, nI_pred, M_p17, M_F (c := 14) (by omega), M_F (c := 16) (by omega), M_F (c := 15) (by omega), M_F (c := 37) (by omega), M_F (c := 38) (by omega), M_F (c := 18) (by omega), M_F (c := 19) (by omega), M_F (c := 22) (by omega), h14, h16, h22, z1, z2, z3, z4, if_false, not_true_eq_false, not_false_eq_true, bS, M_patch hk hl, Option.bind_some]
theorem R157_brc (he : e < 8) (h14 : F 14 e = 1) (hl : l < 160) : Mo_endRow_b157 (nI e) (mkM τ0 i 0 g top l a f C N F) = some (mkM τ0 (i + 1) 0 (if F 16 e = 0 then g ||| F 38 e else g) (-1) (l + 1) a f (upR1 C l (if F 16 e = 0 then 5 else 6)) (upR1 N l 0) F) := by
  have q1 : pmIn (nI e) 8 = true := pmIn_nI he (by omega)
  have q2 : (nI e).toNatClampNeg = e := nI_clamp (by omega)
  unfold Mo_endRow_b157 Mo_endRow_b206 Mo_endRow_b238
  by_cases h16 : F 16 e = 0
  · simp only [q1, q2, if_true, M_ρ, M_i, nI_1, M_p14, M_p17, M_F (c := 14) (by omega), M_F (c := 16) (by omega), h14, h16, not_true_eq_false, if_false, M_emit hl, Option.bind_some, M_g, M_p16, M_F (c := 38) (by omega)]
  · simp only [q1, q2, if_true, M_ρ, M_i, nI_1, M_p14, M_p17, M_F (c := 14) (by omega), M_F (c := 16) (by omega), h14, h16, not_true_eq_false, not_false_eq_true, if_false, M_emit hl, Option.bind_some, M_g, M_p16]
end
section
variable {p : Nat} {σ0 τ0 : Mem} {len i : Nat} {g : Int32} {l a : Nat} {f : Int32} {C N : Nat → Int32} {F : Mem} {d n : Nat} {kn : Int32}
theorem RT_E (hC : CT p σ0 τ0 len) : Mo_readTerm_b2 (n + 1) 1 (mkM τ0 len 0 g (nI d) l a f C N F) = some (mkM τ0 len (-10 - nI len) g (nI d) l a f C N F) := by
  have nz : (-10 - nI len : Int32) ≠ 0 := ne_sub (by have := hC.2.1; omega) (Or.inl rfl)
  rw [Mo_readTerm_b2, if_neg (by decide), M_ρ, if_neg (by decide), M_hereE hC, Option.bind_some, if_pos (show ¬ (-1 : Int32) = 33 by decide), if_pos (show ¬ (-1 : Int32) = 40 by decide), if_pos (show ¬ (-1 : Int32) = 91 by decide)]
  show Mo_readTerm_b49 (Mo_readTerm_b2 n) 1 0 (mkM τ0 len (-10 - nI len) g (nI d) l a f C N F) = _
  unfold Mo_readTerm_b49
  rw [M_ρ, if_neg nz]
theorem RT_k (hC : CT p σ0 τ0 len) (hi : i < len) : Mo_readTerm_b2 (n + 1) 1 (mkM τ0 i 0 g (nI d) l a f C N F) = Mo_readTerm_b49 (Mo_readTerm_b2 n) 1 (if σ0 16 i = 33 then 4 else if σ0 16 i = 40 then 2 else if σ0 16 i = 91 then 3 else 0) (mkM τ0 i 0 g (nI d) l a f C N F) := by
  rw [Mo_readTerm_b2, if_neg (by decide), M_ρ, if_neg (by decide), M_here hC hi, Option.bind_some]
  by_cases h1 : σ0 16 i = 33
  · rw [if_pos h1, if_neg (fun z => z h1)]
  · rw [if_neg h1, if_pos h1]
    by_cases h2 : σ0 16 i = 40
    · rw [if_pos h2, if_neg (fun z => z h2)]
    · rw [if_neg h2, if_pos h2]
      by_cases h3 : σ0 16 i = 91
      · rw [if_pos h3, if_neg (fun z => z h3)]
      · rw [if_neg h3, if_pos h3]
theorem RT_6 {s : Int32} (hs : ¬ s = 0) (hi : i < 2 ^ 20) : Mo_readTerm_b49 (Mo_readTerm_b2 (n + 1)) 1 s (mkM τ0 i 0 g (nI 6) l a f C N F) = some (mkM τ0 i (-10 - nI i) g (nI 6) l a f C N F) := by
  unfold Mo_readTerm_b49
  rw [M_ρ, if_pos rfl, if_pos hs, M_t, if_neg (fun z => z rfl), M_i, M_blame, Option.bind_some, Mo_readTerm_b2, if_neg (by decide), M_ρ, if_pos (ne_sub hi (Or.inl rfl))]
theorem RT_o {s : Int32} (hs : ¬ s = 0) (hd : d < 6) (hK : Kn F d kn) : Mo_readTerm_b49 (Mo_readTerm_b2 n) 1 s (mkM τ0 i 0 g (nI d) l a f C N F) = Mo_readTerm_b2 n 1 (mkM τ0 (i + 1) 0 g (nI (d + 1)) l a f C N (if s = 4 then oF F (d + 1) s i else bR (mput (oF F (d + 1) s i) 20 (d + 1) kn) (d + 1) kn)) := by
  have n6 : ¬ nI d = 6 := fun z => by
    have := (nI_eq (b := 6) (by omega) (by omega)).mp z
    omega
  have q1 : pmIn (nI (d + 1)) 8 = true := pmIn_nI (by omega) (by omega)
  have q2 : (nI (d + 1)).toNatClampNeg = d + 1 := nI_clamp (by omega)
  unfold Mo_readTerm_b49
  rw [M_ρ, if_pos rfl, if_pos hs, M_t, if_pos n6, M_known (by omega) hK, Option.bind_some, M_opn (t := d + 1) (by omega) (nI_1 d), Option.bind_some]
  by_cases h4 : s = 4
  · rw [if_pos h4, if_pos h4, M_i, nI_1, M_p14]
    rfl
  · rw [if_neg h4, if_neg h4, M_i, nI_1, M_p14, M_t, if_pos q1, q2, M_pF (by omega), M_bRow (by omega), Option.bind_some]
    rfl
end
