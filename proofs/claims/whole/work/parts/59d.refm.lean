/-- the reference's memory while it reads -/
def mkM (τ0 : Mem) (i : Nat) (ρ g top : Int32) (l a : Nat) (f : Int32) (C N : Nat → Int32) (F : Mem) : Mem := fun c k =>
  if c = 0 then (if k = 14 then nI i else if k = 15 then ρ else if k = 16 then g else if k = 17 then top else τ0 0 k)
  else if c = 9 then (if k = 16 then nI a else τ0 9 k)
  else if c = 10 then (if k = 16 then f else τ0 10 k)
  else if c = 11 then (if k = 16 then nI l else τ0 11 k)
  else if c = 12 then (if k < 2560 then τ0 12 k else C (k - 2560))
  else if c = 13 then (if k < 2560 then τ0 13 k else N (k - 2560))
  else if 14 ≤ c ∧ c ≤ 40 then F c k else τ0 c k
def RefM (τ0 : Mem) (ρ : Int32) (τ : Mem) : Prop := ∃ i g top l a f C N F, l ≤ 160 ∧ τ = mkM τ0 i ρ g top l a f C N F
section
variable {τ0 : Mem} {i : Nat} {ρ g top : Int32} {l a : Nat} {f : Int32} {C N : Nat → Int32} {F : Mem}
theorem M_i : mkM τ0 i ρ g top l a f C N F 0 14 = nI i := rfl
theorem M_ρ : mkM τ0 i ρ g top l a f C N F 0 15 = ρ := rfl
theorem M_g : mkM τ0 i ρ g top l a f C N F 0 16 = g := rfl
theorem M_t : mkM τ0 i ρ g top l a f C N F 0 17 = top := rfl
theorem M_n : mkM τ0 i ρ g top l a f C N F 0 4 = τ0 0 4 := rfl
theorem M_x : mkM τ0 i ρ g top l a f C N F 5 = τ0 5 := rfl
theorem M_a : mkM τ0 i ρ g top l a f C N F 9 16 = nI a := rfl
theorem M_f : mkM τ0 i ρ g top l a f C N F 10 16 = f := rfl
theorem M_l : mkM τ0 i ρ g top l a f C N F 11 16 = nI l := rfl
theorem M_N (q : Nat) : mkM τ0 i ρ g top l a f C N F 13 (2560 + q) = N q := by
  show (if 2560 + q < 2560 then τ0 13 (2560 + q) else N (2560 + q - 2560)) = N q
  rw [if_neg (by omega), Nat.add_sub_cancel_left]
theorem M_F {c : Nat} (h : 14 ≤ c ∧ c ≤ 40) (k : Nat) : mkM τ0 i ρ g top l a f C N F c k = F c k := by
  unfold mkM
  rw [if_neg (by omega), if_neg (by omega), if_neg (by omega), if_neg (by omega), if_neg (by omega), if_neg (by omega), if_pos h]
theorem M_p14 (x : Nat) : mput (mkM τ0 i ρ g top l a f C N F) 0 14 (nI x) = mkM τ0 x ρ g top l a f C N F := by
  funext c k
  unfold mput mkM
  by_cases h : c = 0
  · simp only [h, if_true]
    by_cases h2 : k = 14 <;> simp only [h2, if_true, if_false]
  · simp only [h, if_false]
theorem M_p15 (x : Int32) : mput (mkM τ0 i ρ g top l a f C N F) 0 15 x = mkM τ0 i x g top l a f C N F := by
  funext c k
  unfold mput mkM
  by_cases h : c = 0
  · simp only [h, if_true]
    by_cases h2 : k = 15
    · subst h2
      rfl
    · simp only [h2, if_false]
  · simp only [h, if_false]
theorem M_p16 (x : Int32) : mput (mkM τ0 i ρ g top l a f C N F) 0 16 x = mkM τ0 i ρ x top l a f C N F := by
  funext c k
  unfold mput mkM
  by_cases h : c = 0
  · simp only [h, if_true]
    by_cases h2 : k = 16
    · subst h2
      rfl
    · simp only [h2, if_false]
  · simp only [h, if_false]
theorem M_p17 (x : Int32) : mput (mkM τ0 i ρ g top l a f C N F) 0 17 x = mkM τ0 i ρ g x l a f C N F := by
  funext c k
  unfold mput mkM
  by_cases h : c = 0
  · simp only [h, if_true]
    by_cases h2 : k = 17
    · subst h2
      rfl
    · simp only [h2, if_false]
  · simp only [h, if_false]
theorem M_p9 (x : Nat) : mput (mkM τ0 i ρ g top l a f C N F) 9 16 (nI x) = mkM τ0 i ρ g top l x f C N F := by
  funext c k
  unfold mput mkM
  by_cases h : c = 9
  · subst h
    by_cases h2 : k = 16
    · subst h2
      rfl
    · simp [h2]
  · simp only [h, if_false]
theorem M_p10 (x : Int32) : mput (mkM τ0 i ρ g top l a f C N F) 10 16 x = mkM τ0 i ρ g top l a x C N F := by
  funext c k
  unfold mput mkM
  by_cases h : c = 10
  · subst h
    by_cases h2 : k = 16
    · subst h2
      rfl
    · simp [h2]
  · simp only [h, if_false]
theorem M_p11 (x : Nat) : mput (mkM τ0 i ρ g top l a f C N F) 11 16 (nI x) = mkM τ0 i ρ g top x a f C N F := by
  funext c k
  unfold mput mkM
  by_cases h : c = 11
  · subst h
    by_cases h2 : k = 16
    · subst h2
      rfl
    · simp [h2]
  · simp only [h, if_false]
theorem M_p12 (q : Nat) (x : Int32) : mput (mkM τ0 i ρ g top l a f C N F) 12 (2560 + q) x = mkM τ0 i ρ g top l a f (upR1 C q x) N F := by
  funext c k
  unfold mput mkM upR1
  by_cases h : c = 12
  · subst h
    by_cases h2 : k = 2560 + q
    · subst h2
      simp
      intro z
      omega
    · by_cases h3 : k < 2560
      · simp [h2, h3]
      · have : ¬ k - 2560 = q := by omega
        simp [h2, h3, this]
  · simp only [h, if_false]
theorem M_p13 (q : Nat) (x : Int32) : mput (mkM τ0 i ρ g top l a f C N F) 13 (2560 + q) x = mkM τ0 i ρ g top l a f C (upR1 N q x) F := by
  funext c k
  unfold mput mkM upR1
  by_cases h : c = 13
  · subst h
    by_cases h2 : k = 2560 + q
    · subst h2
      simp
      intro z
      omega
    · by_cases h3 : k < 2560
      · simp [h2, h3]
      · have : ¬ k - 2560 = q := by omega
        simp [h2, h3, this]
  · simp only [h, if_false]
theorem M_pF {c : Nat} (h : 14 ≤ c ∧ c ≤ 40) (k : Nat) (x : Int32) : mput (mkM τ0 i ρ g top l a f C N F) c k x = mkM τ0 i ρ g top l a f C N (mput F c k x) := by
  funext c1 k1
  by_cases h1 : c1 = c
  · subst h1
    rw [M_F h]
    unfold mput
    simp only [if_true]
    by_cases h2 : k1 = k
    · simp only [h2, if_true]
    · simp only [h2, if_false]
      exact M_F h k1
  · rw [mrow_ne h1]
    by_cases h2 : 14 ≤ c1 ∧ c1 ≤ 40
    · rw [M_F h2, M_F h2, mrow_ne h1]
    · unfold mkM
      simp only [h2, if_false]
end
section
variable {p : Nat} {σ0 τ0 : Mem} {len i : Nat} {ρ g top : Int32} {l a : Nat} {f : Int32} {C N : Nat → Int32} {F : Mem}
theorem M_here (h : CT p σ0 τ0 len) (hi : i < len) : Mo_here (mkM τ0 i 0 g top l a f C N F) = some (σ0 16 i, mkM τ0 i 0 g top l a f C N F) := by
  have h2 := h.2.1
  unfold Mo_here Mo_here_b19
  rw [M_i, M_n, h.2.2.2.2.1, if_pos (nI_lt hi (by omega)), M_ρ, if_pos rfl, if_pos (pmIn_nI (by omega) n31), M_x, nI_clamp (by omega), (h.2.2.2.2.2 i hi).1]
theorem M_blame (v : Int32) : Mo_blame v (mkM τ0 i 0 g top l a f C N F) = some (mkM τ0 i (-10 - v) g top l a f C N F) := by
  unfold Mo_blame Mo_blame_b19
  rw [M_ρ, if_neg (by decide), M_p15]
theorem M_blameR (v : Int32) (hρ : ρ ≠ 0) : Mo_blame v (mkM τ0 i ρ g top l a f C N F) = some (mkM τ0 i ρ g top l a f C N F) := by
  unfold Mo_blame Mo_blame_b19
  rw [M_ρ, if_pos hρ, M_p15]
theorem M_wt (v : Int32) : Mo_wrongType v (mkM τ0 i 0 g top l a f C N F) = some (mkM τ0 i (-1000 - v) g top l a f C N F) := by
  unfold Mo_wrongType Mo_wrongType_b20
  rw [M_ρ, if_neg (by decide), M_p15]
theorem M_wtR (v : Int32) (hρ : ρ ≠ 0) : Mo_wrongType v (mkM τ0 i ρ g top l a f C N F) = some (mkM τ0 i ρ g top l a f C N F) := by
  unfold Mo_wrongType Mo_wrongType_b20
  rw [M_ρ, if_pos hρ, M_p15]
theorem M_hereE (h : CT p σ0 τ0 len) : Mo_here (mkM τ0 len 0 g top l a f C N F) = some (-1, mkM τ0 len (-10 - nI len) g top l a f C N F) := by
  have h2 := h.2.1
  unfold Mo_here
  rw [M_i, M_n, h.2.2.2.2.1, if_neg (nI_nlt (Nat.le_refl _) (by omega)), M_blame, Option.bind_some]
  unfold Mo_here_b19
  rw [M_ρ, if_neg (ne_sub (by omega) (Or.inl rfl))]
theorem M_hereR (hρ : ρ ≠ 0) : Mo_here (mkM τ0 i ρ g top l a f C N F) = some (-1, mkM τ0 i ρ g top l a f C N F) := by
  have e : Mo_here_b19 (mkM τ0 i ρ g top l a f C N F) = some (-1, mkM τ0 i ρ g top l a f C N F) := by
    unfold Mo_here_b19
    rw [M_ρ, if_neg hρ]
  unfold Mo_here
  split
  · exact e
  · rw [M_blameR _ hρ]
    exact e
theorem M_emit (hl : l < 160) (v1 v2 : Int32) : Mo_emit v1 v2 (mkM τ0 i ρ g top l a f C N F) = some (mkM τ0 i ρ g top (l + 1) a f (upR1 C l v1) (upR1 N l v2) F) := by
  have e : 2560 + nI l = nI (2560 + l) := nI_add 2560 l
  have q : pmIn (nI (2560 + l)) 2720 = true := pmIn_nI (by omega) (by omega)
  have q2 : (nI (2560 + l)).toNatClampNeg = 2560 + l := nI_clamp (by omega)
  have q3 : pmIn 16 17 = true := by decide
  unfold Mo_emit
  simp only [M_l, e, q, q2, q3, if_true, M_p12, M_p13, nI_1, M_p11]
theorem M_opn {t : Nat} (ht : t < 8) (e : top + 1 = nI t) (v : Int32) : Mo_opn v (mkM τ0 i ρ g top l a f C N F) = some (mkM τ0 i ρ g (nI t) l a f C N (mput (mput (mput F 14 t v) 15 t (nI i)) 16 t 0)) := by
  have q : pmIn (nI t) 8 = true := pmIn_nI ht (by omega)
  have q2 : (nI t).toNatClampNeg = t := nI_clamp (by omega)
  unfold Mo_opn
  simp only [M_t, e, M_p17, q, q2, if_true, M_i, M_pF (c := 14) (by omega), M_pF (c := 15) (by omega), M_pF (c := 16) (by omega)]
def bR (F : Mem) (d : Nat) (v : Int32) : Mem := mput (mput (mput (mput (mput (mput (mput F 23 d 0) 27 d 0) 30 d 0) 34 d (-1)) 35 d 0) 39 d (-1)) 40 d v
theorem M_bRow {d : Nat} (hd : d < 8) (v : Int32) : Mo_beginRow v (mkM τ0 i ρ g (nI d) l a f C N F) = some (mkM τ0 i ρ g (nI d) l a f C N (bR F d v)) := by
  have q : pmIn (nI d) 8 = true := pmIn_nI hd (by omega)
  have q2 : (nI d).toNatClampNeg = d := nI_clamp (by omega)
  unfold Mo_beginRow bR
  simp only [M_t, q, q2, if_true, M_pF (c := 23) (by omega), M_pF (c := 27) (by omega), M_pF (c := 30) (by omega), M_pF (c := 34) (by omega), M_pF (c := 35) (by omega), M_pF (c := 39) (by omega), M_pF (c := 40) (by omega)]
/-- what is known at depth d -/
def Kn (F : Mem) (d : Nat) (kn : Int32) : Prop := ∃ t, t ≤ d ∧ ¬ F 14 t = 4 ∧ (∀ u, t < u → u ≤ d → F 14 u = 4) ∧ (F 40 t ||| (if F 30 t = 0 then 0 else F 33 t)) = kn
theorem nI_m1 (d : Nat) : nI (d + 1) + -1 = nI d := by
  rw [← nI_1, Int32.add_assoc]
  exact Int32.add_zero _
theorem M_row {t : Nat} (h4 : ¬ F 14 t = 4) : ∀ (q n d : Nat), t + q = d → d < 8 → q < n → (∀ u, t < u → u ≤ d → F 14 u = 4) → Mo_row_b5 n (nI d) (mkM τ0 i ρ g top l a f C N F) = some (nI t)
  | 0, n + 1, d, e, hd, _, _ => by
    subst e
    rw [Mo_row_b5, if_pos (pmIn_nI hd (by omega)), nI_clamp (by omega), M_F (by omega), Nat.add_zero, if_pos h4]
  | q + 1, n + 1, d, e, hd, hn, h => by
    subst e
    rw [Mo_row_b5, if_pos (pmIn_nI hd (by omega)), nI_clamp (by omega), M_F (by omega), if_neg (fun z => z (h _ (by omega) (by omega))), ← Nat.add_assoc, nI_m1]
    exact M_row h4 q n (t + q) rfl (by omega) (by omega) (fun u a b => h u a (by omega))
theorem M_known {d : Nat} {kn : Int32} (hd : d < 8) (h : Kn F d kn) : Mo_knownHere (mkM τ0 i ρ g (nI d) l a f C N F) = some kn := by
  obtain ⟨t, ht, h4, hu, rfl⟩ := h
  have q : pmIn (nI t) 8 = true := pmIn_nI (by omega) (by omega)
  have q2 : (nI t).toNatClampNeg = t := nI_clamp (by omega)
  unfold Mo_knownHere Mo_row
  rw [M_t, M_row h4 (d - t) FU d (by omega) hd (by unfold FU; omega) hu, Option.bind_some]
  simp only [q, q2, if_true, M_F (c := 30) (by omega), M_F (c := 40) (by omega), M_F (c := 33) (by omega)]
  by_cases e : F 30 t = 0
  · simp only [e, if_true]
  · simp only [e, if_false]
end
