def MD (τ0 : Mem) (ρ : Int32) (E : Option Mem) : Prop := ∃ τ1, E = some τ1 ∧ RefM τ0 ρ τ1
/-- the chains of & and of | at depth d hang together -/
def Chs (N : Nat → Int32) (F : Mem) (d l : Nat) : Prop := ∃ l0 js ks, l0 ≤ l ∧ Lk N l0 l (F 34 d) js ∧ Lk N 0 l0 (F 39 d) ks
section
variable {p : Nat} {σ0 τ0 : Mem} {len i : Nat} {ρ g top : Int32} {l a : Nat} {f : Int32} {C N : Nat → Int32} {F : Mem} {d : Nat} {b : Int32}
theorem md_i (hl : l ≤ 160) : MD τ0 ρ (some (mkM τ0 i ρ g top l a f C N F)) := ⟨_, rfl, i, g, top, l, a, f, C, N, F, hl, rfl⟩
theorem dR157 (hρ : ρ ≠ 0) (v1 : Int32) : Mo_endRow_b157 v1 (mkM τ0 i ρ g top l a f C N F) = some (mkM τ0 i ρ g top l a f C N F) := by
  unfold Mo_endRow_b157
  rw [M_ρ, if_neg hρ]
theorem dR141 (hρ : ρ ≠ 0) (v1 v2 s : Int32) : Mo_endRow_b141 v1 v2 s (mkM τ0 i ρ g top l a f C N F) = some (mkM τ0 i ρ g top l a f C N F) := by
  unfold Mo_endRow_b141
  rw [M_blameR _ hρ, Option.bind_some, dR157 hρ, ite_self]
theorem dR94 (hρ : ρ ≠ 0) (hd : d < 8) : Mo_endRow_b94 (nI d) b (mkM τ0 i ρ g top l a f C N F) = some (mkM τ0 i ρ g top l a f C N F) := by
  have q : pmIn (nI d) 8 = true := pmIn_nI hd (by omega)
  unfold Mo_endRow_b94
  simp only [q, if_true, dR141 hρ, ite_self]
theorem dR84 (hρ : ρ ≠ 0) (hd : d < 8) : Mo_endRow_b84 (nI d) b (mkM τ0 i ρ g top l a f C N F) = some (mkM τ0 i ρ g top l a f C N F) := by
  have q : pmIn (nI d) 8 = true := pmIn_nI hd (by omega)
  unfold Mo_endRow_b84
  simp only [q, if_true, M_wtR _ hρ, Option.bind_some, dR94 hρ hd]
theorem dR49 (hρ : ρ ≠ 0) (hd : d < 8) : Mo_endRow_b49 (nI d) b (mkM τ0 i ρ g top l a f C N F) = some (mkM τ0 i ρ g top l a f C N F) := by
  have q : pmIn (nI d) 8 = true := pmIn_nI hd (by omega)
  unfold Mo_endRow_b49
  simp only [q, if_true, dR84 hρ hd, dR94 hρ hd, ite_self]
theorem dR34 (hρ : ρ ≠ 0) (hd : d < 8) (s : Int32) : Mo_endRow_b34 (nI d) b s (mkM τ0 i ρ g top l a f C N F) = some (mkM τ0 i ρ g top l a f C N F) := by
  have q : pmIn (nI d) 8 = true := pmIn_nI hd (by omega)
  unfold Mo_endRow_b34
  simp only [q, if_true, dR84 hρ hd, dR49 hρ hd, ite_self]
theorem dRow (hρ : ρ ≠ 0) (hd : d < 8) : Mo_endRow (nI d) b (mkM τ0 i ρ g top l a f C N F) = some (mkM τ0 i ρ g top l a f C N F) := by
  have q : pmIn (nI d) 8 = true := pmIn_nI hd (by omega)
  unfold Mo_endRow Mo_endRow_b29 Mo_endRow_b33
  simp only [q, if_true, dR34 hρ hd, ite_self]
theorem M_137 (hd : d < 8) (hl : l < 160) : Mo_endAnd_b137 (nI d) (mkM τ0 i ρ g top l a f C N F) = some (mkM τ0 (i + 1) ρ g top (l + 1) a f (upR1 C l 2) (upR1 N l (F 39 d)) (mput (mput F 39 d (nI l)) 35 d 1)) := by
  have q : pmIn (nI d) 8 = true := pmIn_nI hd (by omega)
  have q2 : (nI d).toNatClampNeg = d := nI_clamp (by omega)
  have q3 : pmIn 16 17 = true := by decide
  unfold Mo_endAnd_b137
  simp only [q, q2, q3, if_true, M_F (c := 39) (by omega), M_emit hl, Option.bind_some, M_l, nI_pred, M_pF (c := 39) (by omega), M_pF (c := 35) (by omega), M_i, nI_1, M_p14]
theorem M_309 (hd : d < 8) (hl : l < 160) : Mo_goOn_b309 (nI d) (mkM τ0 i ρ g top l a f C N F) = some (mkM τ0 (i + 1) ρ g top (l + 1) a f (upR1 C l 1) (upR1 N l (F 34 d)) (mput (mput F 34 d (nI l)) 30 d 1)) := by
  have q : pmIn (nI d) 8 = true := pmIn_nI hd (by omega)
  have q2 : (nI d).toNatClampNeg = d := nI_clamp (by omega)
  have q3 : pmIn 16 17 = true := by decide
  unfold Mo_goOn_b309
  simp only [q, q2, q3, if_true, M_F (c := 34) (by omega), M_emit hl, Option.bind_some, M_l, nI_pred, M_pF (c := 34) (by omega), M_pF (c := 30) (by omega), M_i, nI_1, M_p14]
theorem M_50 (hd : d < 8) (v : Int32) : Mo_goOn_b50 v (nI d) (mkM τ0 i ρ g top l a f C N F) = some (mkM τ0 (i + 1) ρ g top l a f C N (mput F 23 d v)) := by
  have q : pmIn (nI d) 8 = true := pmIn_nI hd (by omega)
  have q2 : (nI d).toNatClampNeg = d := nI_clamp (by omega)
  unfold Mo_goOn_b50
  simp only [q, q2, if_true, M_pF (c := 23) (by omega), M_i, nI_1, M_p14]
theorem M_189 (hd : d < 8) (v v3 v5 : Int32) : Mo_goOn_b189 v (nI d) v3 v5 (mkM τ0 i ρ g top l a f C N F) = some (mkM τ0 (i + 1) ρ g top l a f C N (mput (mput (mput F 27 d v) 29 d v3) 28 d v5)) := by
  have q : pmIn (nI d) 8 = true := pmIn_nI hd (by omega)
  have q2 : (nI d).toNatClampNeg = d := nI_clamp (by omega)
  unfold Mo_goOn_b189
  simp only [q, q2, if_true, M_pF (c := 27) (by omega), M_pF (c := 29) (by omega), M_pF (c := 28) (by omega), M_i, nI_1, M_p14]
theorem M_131 (hd : d < 8) (hl : l < 160) : Mo_goOn_b131 b (nI d) (mkM τ0 i ρ g top l a f C N F) = Mo_goOn_b222 b (nI d) 2 0 (F 28 d) (mkM τ0 i ρ g top (l + 1) a f (upR1 C l (F 27 d)) (upR1 N l 0) (mput F 27 d 0)) := by
  have q : pmIn (nI d) 8 = true := pmIn_nI hd (by omega)
  have q2 : (nI d).toNatClampNeg = d := nI_clamp (by omega)
  have q4 : mput F 27 d 0 28 d = F 28 d := mput_ne (by omega)
  unfold Mo_goOn_b131
  simp only [q, q2, if_true, M_F (c := 27) (by omega), M_emit hl, Option.bind_some, M_pF (c := 27) (by omega), M_F (c := 28) (by omega), q4]
theorem M_111 (hd : d < 8) {u : Nat} {ks : List Nat} (hu : u ≤ 160) (hk : Lk N 0 u (F 39 d) ks) (hb : ¬ b = 124) : Mo_endAnd_b111 (nI d) b (mkM τ0 i ρ g top l a f C N F) = Mo_endRow (nI d) b (mkM τ0 i ρ g top l a f C (pt N ks (nI l)) (mput F 39 d (-1))) := by
  have q : pmIn (nI d) 8 = true := pmIn_nI hd (by omega)
  have q2 : (nI d).toNatClampNeg = d := nI_clamp (by omega)
  unfold Mo_endAnd_b111
  simp only [hb, not_false_eq_true, q, q2, if_true, M_F (c := 39) (by omega), M_patch hk hu, Option.bind_some, M_pF (c := 39) (by omega)]
  cases Mo_endRow (nI d) b (mkM τ0 i ρ g top l a f C (pt N ks (nI l)) (mput F 39 d (-1))) <;> rfl
theorem dA111 (hρ : ρ ≠ 0) (hd : d < 8) (hl : l < 160) {u : Nat} {ks : List Nat} (hu : u ≤ 160) (hk : Lk N 0 u (F 39 d) ks) : MD τ0 ρ (Mo_endAnd_b111 (nI d) b (mkM τ0 i ρ g top l a f C N F)) := by
  have q : pmIn (nI d) 8 = true := pmIn_nI hd (by omega)
  by_cases hb : b = 124
  · unfold Mo_endAnd_b111
    simp only [hb, not_true_eq_false, if_false, q, if_true, M_wtR _ hρ, Option.bind_some, ite_self, M_137 hd hl]
    exact md_i hl
  · rw [M_111 hd hu hk hb, dRow hρ hd]
    exact md_i (by omega)
/-- the end of a row of &, its jumps patched -/
def eF1 (F : Mem) (d : Nat) : Mem := mput (mput F 34 d (-1)) 30 d 0
def eF2 (F : Mem) (d : Nat) : Mem := mput (mput (mput (eF1 F d) 37 d (F 32 d)) 38 d (F 33 d)) 36 d (F 31 d)
def eF3 (F : Mem) (d : Nat) : Mem := mput (eF1 F d) 38 d (F 38 d &&& F 33 d)
theorem M_53 (hd : d < 8) : Mo_endAnd_b53 (nI d) b (mkM τ0 i ρ g top l a f C N (eF1 F d)) = Mo_endAnd_b111 (nI d) b (mkM τ0 i ρ g top l a f C N (eF3 F d)) := by
  have q : pmIn (nI d) 8 = true := pmIn_nI hd (by omega)
  have q2 : (nI d).toNatClampNeg = d := nI_clamp (by omega)
  have e1 : eF1 F d 38 d = F 38 d := by unfold eF1; rw [mput_ne (by omega), mput_ne (by omega)]
  have e2 : eF1 F d 33 d = F 33 d := by unfold eF1; rw [mput_ne (by omega), mput_ne (by omega)]
  unfold Mo_endAnd_b53 eF3
  simp only [q, q2, if_true, M_F (c := 38) (by omega), M_F (c := 33) (by omega), M_pF (c := 38) (by omega), e1, e2]
theorem M_endAnd (hd : d < 8) {u0 u : Nat} {js : List Nat} (hu : u ≤ 160) (hk : Lk N u0 u (F 34 d) js) : Mo_endAnd (nI d) b (mkM τ0 i ρ g top l a f C N F) =
    if F 35 d = 0 then Mo_endAnd_b111 (nI d) b (mkM τ0 i ρ g top l a f C (pt N js (nI l)) (eF2 F d))
    else if F 32 d = 2 then Mo_endAnd_b53 (nI d) b (mkM τ0 i ρ g top l a f C (pt N js (nI l)) (eF1 F d))
    else (Mo_wrongType (F 31 d) (mkM τ0 i ρ g top l a f C (pt N js (nI l)) (eF1 F d))).bind fun q => Mo_endAnd_b53 (nI d) b q := by
  have q : pmIn (nI d) 8 = true := pmIn_nI hd (by omega)
  have q2 : (nI d).toNatClampNeg = d := nI_clamp (by omega)
  have e1 : ∀ c, c ≠ 34 → c ≠ 30 → mput (mput F 34 d (-1)) 30 d 0 c d = F c d := fun c h1 h2 => by rw [mput_ne (by omega), mput_ne (by omega)]
  have e2 : ∀ c x, c ≠ 37 → c ≠ 34 → c ≠ 30 → mput (mput (mput F 34 d (-1)) 30 d 0) 37 d x c d = F c d := fun c x h1 h2 h3 => by rw [mput_ne (by omega), e1 c h2 h3]
  have e3 : ∀ c x y, c ≠ 37 → c ≠ 38 → c ≠ 34 → c ≠ 30 → mput (mput (mput (mput F 34 d (-1)) 30 d 0) 37 d x) 38 d y c d = F c d := fun c x y h1 h2 h3 h4 => by rw [mput_ne (by omega), e2 c x h1 h3 h4]
  unfold Mo_endAnd eF2 eF1
  simp only [q, q2, if_true, M_F (c := 34) (by omega), M_patch hk hu, Option.bind_some, M_pF (c := 34) (by omega), M_pF (c := 30) (by omega), M_F (c := 35) (by omega), M_F (c := 32) (by omega), M_F (c := 33) (by omega), M_F (c := 31) (by omega), M_pF (c := 37) (by omega), M_pF (c := 38) (by omega), M_pF (c := 36) (by omega), e1 35 (by omega) (by omega), e1 32 (by omega) (by omega), e1 31 (by omega) (by omega), e2 33 _ (by omega) (by omega) (by omega), e3 31 _ _ (by omega) (by omega) (by omega) (by omega)]
theorem dAnd_ (hρ : ρ ≠ 0) (hd : d < 8) (hl : l < 160) (hc : Chs N F d l) : MD τ0 ρ (Mo_endAnd (nI d) b (mkM τ0 i ρ g top l a f C N F)) := by
  obtain ⟨l0, js, ks, h0, hj, hk⟩ := hc
  have hk2 : Lk (pt N js (nI l)) 0 l0 (F 39 d) ks := Lk_cg ks _ _ hk (fun k _ hk => if_neg (fun z => by have := Lk_mem js _ _ hj k z; omega))
  have hk3 : MD τ0 ρ (Mo_endAnd_b53 (nI d) b (mkM τ0 i ρ g top l a f C (pt N js (nI l)) (eF1 F d))) := by
    rw [M_53 hd]
    refine dA111 hρ hd hl (u := l0) (ks := ks) (by omega) ?_
    unfold eF3 eF1
    rw [mput_ne (by omega), mput_ne (by omega), mput_ne (by omega)]
    exact hk2
  rw [M_endAnd hd (by omega) hj]
  by_cases h35 : F 35 d = 0
  · rw [if_pos h35]
    refine dA111 hρ hd hl (u := l0) (ks := ks) (by omega) ?_
    unfold eF2 eF1
    rw [mput_ne (by omega), mput_ne (by omega), mput_ne (by omega), mput_ne (by omega), mput_ne (by omega)]
    exact hk2
  · rw [if_neg h35]
    by_cases h32 : F 32 d = 2
    · rw [if_pos h32]
      exact hk3
    · rw [if_neg h32, M_wtR _ hρ, Option.bind_some]
      exact hk3
theorem M_283 (hb : ¬ b = 38) (τ : Mem) : Mo_goOn_b283 b (nI d) τ = Mo_endAnd (nI d) b τ := by
  unfold Mo_goOn_b283
  rw [if_pos hb]
  cases Mo_endAnd (nI d) b τ <;> rfl
theorem d283 (hρ : ρ ≠ 0) (hd : d < 8) (hl : l < 160) (hc : Chs N F d l) : MD τ0 ρ (Mo_goOn_b283 b (nI d) (mkM τ0 i ρ g top l a f C N F)) := by
  have q : pmIn (nI d) 8 = true := pmIn_nI hd (by omega)
  by_cases hb : b = 38
  · unfold Mo_goOn_b283
    simp only [hb, not_true_eq_false, if_false, q, if_true, M_wtR _ hρ, Option.bind_some, ite_self, M_309 hd hl]
    exact md_i hl
  · rw [M_283 hb]
    exact dAnd_ hρ hd hl hc
theorem M_242 (hd : d < 8) (v4 : Int32) : Mo_goOn_b242 b (nI d) v4 (mkM τ0 i ρ g top l a f C N F) = Mo_goOn_b283 b (nI d) (mkM τ0 i ρ g top l a f C N (mput F 33 d (F 33 d ||| v4))) := by
  have q : pmIn (nI d) 8 = true := pmIn_nI hd (by omega)
  have q2 : (nI d).toNatClampNeg = d := nI_clamp (by omega)
  unfold Mo_goOn_b242
  simp only [q, q2, if_true, M_F (c := 33) (by omega), M_pF (c := 33) (by omega)]
theorem M_222a (hd : d < 8) (h30 : F 30 d = 0) (v3 v4 v5 : Int32) : Mo_goOn_b222 b (nI d) v3 v4 v5 (mkM τ0 i ρ g top l a f C N F) = Mo_goOn_b283 b (nI d) (mkM τ0 i ρ g top l a f C N (mput (mput (mput F 32 d v3) 33 d v4) 31 d v5)) := by
  have q : pmIn (nI d) 8 = true := pmIn_nI hd (by omega)
  have q2 : (nI d).toNatClampNeg = d := nI_clamp (by omega)
  unfold Mo_goOn_b222
  simp only [q, q2, if_true, M_F (c := 30) (by omega), h30, M_pF (c := 32) (by omega), M_pF (c := 33) (by omega), M_pF (c := 31) (by omega)]
theorem M_222b (hd : d < 8) (h30 : ¬ F 30 d = 0) (v3 v4 v5 : Int32) : Mo_goOn_b222 b (nI d) v3 v4 v5 (mkM τ0 i ρ g top l a f C N F) = if v3 = 2 then Mo_goOn_b242 b (nI d) v4 (mkM τ0 i ρ g top l a f C N F) else (Mo_wrongType v5 (mkM τ0 i ρ g top l a f C N F)).bind fun q => Mo_goOn_b242 b (nI d) v4 q := by
  have q : pmIn (nI d) 8 = true := pmIn_nI hd (by omega)
  have q2 : (nI d).toNatClampNeg = d := nI_clamp (by omega)
  unfold Mo_goOn_b222
  simp only [q, q2, if_true, M_F (c := 30) (by omega), h30, if_false]
theorem d242 (hρ : ρ ≠ 0) (hd : d < 8) (hl : l < 160) (hc : Chs N F d l) (v4 : Int32) : MD τ0 ρ (Mo_goOn_b242 b (nI d) v4 (mkM τ0 i ρ g top l a f C N F)) := by
  rw [M_242 hd]
  refine d283 hρ hd hl ?_
  obtain ⟨l0, js, ks, h0, hj, hk⟩ := hc
  exact ⟨l0, js, ks, h0, by rw [mput_ne (by omega)]; exact hj, by rw [mput_ne (by omega)]; exact hk⟩
theorem d222 (hρ : ρ ≠ 0) (hd : d < 8) (hl : l < 160) (hc : Chs N F d l) (v3 v4 v5 : Int32) : MD τ0 ρ (Mo_goOn_b222 b (nI d) v3 v4 v5 (mkM τ0 i ρ g top l a f C N F)) := by
  by_cases h30 : F 30 d = 0
  · rw [M_222a hd h30]
    refine d283 hρ hd hl ?_
    obtain ⟨l0, js, ks, h0, hj, hk⟩ := hc
    exact ⟨l0, js, ks, h0, by rw [mput_ne (by omega), mput_ne (by omega), mput_ne (by omega)]; exact hj, by rw [mput_ne (by omega), mput_ne (by omega), mput_ne (by omega)]; exact hk⟩
  · rw [M_222b hd h30, M_wtR _ hρ, Option.bind_some, ite_self]
    exact d242 hρ hd hl hc v4
theorem g_sum (h : CT p σ0 τ0 len) (hi : i < len) (hb : σ0 16 i = 43 ∨ σ0 16 i = 45) : Mo_goOn (mkM τ0 i 0 g (nI d) l a f C N F) = Mo_goOn_b30 (σ0 16 i) (nI d) (mkM τ0 i 0 g (nI d) l a f C N F) := by
  unfold Mo_goOn
  rw [M_here h hi, Option.bind_some]
  show (if mkM τ0 i 0 g (nI d) l a f C N F 0 15 = 0 then (if σ0 16 i = 43 then Mo_goOn_b30 (σ0 16 i) (nI d) (mkM τ0 i 0 g (nI d) l a f C N F) else if ¬ σ0 16 i = 45 then _ else Mo_goOn_b30 (σ0 16 i) (nI d) (mkM τ0 i 0 g (nI d) l a f C N F)) else _) = _
  rw [M_ρ, if_pos rfl]
  rcases hb with e | e
  · rw [if_pos e]
  · rw [if_neg (by rw [e]; decide), if_neg (fun z => z e)]
theorem g_rest (h : CT p σ0 τ0 len) (hi : i < len) (hd : d < 8) (hb : ¬ (σ0 16 i = 43 ∨ σ0 16 i = 45)) : Mo_goOn (mkM τ0 i 0 g (nI d) l a f C N F) =
    if F 27 d = 0 then
      (if Mo_isComparing (σ0 16 i) = 0 then Mo_goOn_b222 (σ0 16 i) (nI d) (F 25 d) (F 26 d) (F 24 d) (mkM τ0 i 0 g (nI d) l a f C N F)
       else if ¬ σ0 16 i = 60 then Mo_goOn_b189 (σ0 16 i) (nI d) (F 25 d) (F 24 d) (mkM τ0 i 0 g (nI d) l a f C N F)
       else if F 25 d = 1 then Mo_goOn_b189 (σ0 16 i) (nI d) (F 25 d) (F 24 d) (mkM τ0 i 0 g (nI d) l a f C N F)
       else (Mo_wrongType (F 24 d) (mkM τ0 i 0 g (nI d) l a f C N F)).bind fun q => Mo_goOn_b189 (σ0 16 i) (nI d) (F 25 d) (F 24 d) q)
    else (if ¬ F 27 d = 60 then Mo_goOn_b122 (σ0 16 i) (nI d) (F 24 d) (F 25 d) (F 29 d) (mkM τ0 i 0 g (nI d) l a f C N F)
       else Mo_goOn_b122 (σ0 16 i) (nI d) (F 24 d) (F 25 d) 1 (mkM τ0 i 0 g (nI d) l a f C N F)) := by
  have q : pmIn (nI d) 8 = true := pmIn_nI hd (by omega)
  have q2 : (nI d).toNatClampNeg = d := nI_clamp (by omega)
  have n1 : ¬ σ0 16 i = 43 := fun z => hb (Or.inl z)
  have n2 : ¬ σ0 16 i = 45 := fun z => hb (Or.inr z)
  unfold Mo_goOn
  rw [M_here h hi, Option.bind_some]
  simp only [M_ρ, if_true, n1, n2, if_false, not_false_eq_true, M_t, q, q2, M_F (c := 27) (by omega), M_F (c := 25) (by omega), M_F (c := 26) (by omega), M_F (c := 24) (by omega), M_F (c := 29) (by omega)]
end
