/-- the class's memory while it reads into policy p -/
def mkX (p : Nat) (σ0 : Mem) (i : Nat) (ρ : Int32) (a : Nat) (P : Int32) (j : Nat) (L f : Int32) (K W : Nat → Int32) : Mem := fun c k =>
  if c = 15 then (if k = 3 then nI i else if k = 4 then ρ else if k = 5 then nI a else if k = 6 then P else σ0 15 k)
  else if c = p then (if k = 9 then nI j else if k = 3 then L else if k = 1 then f else σ0 p k)
  else if c = p + 1 then K k else if c = p + 2 then W k else σ0 c k
def upR1 (K : Nat → Int32) (j : Nat) (x : Int32) : Nat → Int32 := fun k => if k = j then x else K k
/-- the text, seen by both -/
def CT (p : Nat) (σ0 τ0 : Mem) (len : Nat) : Prop := isPo p ∧ len ≤ 160 ∧ σ0 15 1 = nI len ∧ σ0 15 2 = nI p ∧ τ0 0 4 = nI len ∧ ∀ k, k < len → σ0 16 k = τ0 5 k ∧ ∃ b, b < 256 ∧ σ0 16 k = nI b
section
variable {p : Nat} {σ0 τ0 : Mem} {len : Nat} {i : Nat} {ρ : Int32} {a : Nat} {P : Int32} {j : Nat} {L f : Int32} {K W : Nat → Int32}
theorem x_pos : mkX p σ0 i ρ a P j L f K W 15 3 = nI i := rfl
theorem x_ref : mkX p σ0 i ρ a P j L f K W 15 4 = ρ := rfl
theorem x_atm : mkX p σ0 i ρ a P j L f K W 15 5 = nI a := rfl
theorem x_prv : mkX p σ0 i ρ a P j L f K W 15 6 = P := rfl
theorem x_len : mkX p σ0 i ρ a P j L f K W 15 1 = σ0 15 1 := rfl
theorem x_pol : mkX p σ0 i ρ a P j L f K W 15 2 = σ0 15 2 := rfl
theorem x_txt (hp : isPo p) : mkX p σ0 i ρ a P j L f K W 16 = σ0 16 := by
  have := po_ne hp
  funext k
  unfold mkX
  rw [if_neg (by omega), if_neg (by omega), if_neg (by omega), if_neg (by omega)]
theorem x_stp (hp : isPo p) : mkX p σ0 i ρ a P j L f K W p 9 = nI j := by
  have := po_ne hp
  unfold mkX
  rw [if_neg (by omega), if_pos rfl, if_pos rfl]
theorem x_lk (hp : isPo p) : mkX p σ0 i ρ a P j L f K W p 3 = L := by
  have := po_ne hp
  unfold mkX
  rw [if_neg (by omega), if_pos rfl, if_neg (by omega), if_pos rfl]
theorem x_p3 (x : Nat) : mput (mkX p σ0 i ρ a P j L f K W) 15 3 (nI x) = mkX p σ0 x ρ a P j L f K W := by
  funext c k
  unfold mput mkX
  by_cases h : c = 15
  · simp only [h, if_true]
    by_cases h2 : k = 3
    · simp only [h2, if_true]
    · simp only [h2, if_false]
  · simp only [h, if_false]
theorem x_p4 (x : Int32) : mput (mkX p σ0 i ρ a P j L f K W) 15 4 x = mkX p σ0 i x a P j L f K W := by
  funext c k
  unfold mput mkX
  by_cases h : c = 15
  · simp only [h, if_true]
    by_cases h2 : k = 4
    · subst h2
      rfl
    · simp only [h2, if_false]
  · simp only [h, if_false]
theorem x_p5 (x : Nat) : mput (mkX p σ0 i ρ a P j L f K W) 15 5 (nI x) = mkX p σ0 i ρ x P j L f K W := by
  funext c k
  unfold mput mkX
  by_cases h : c = 15
  · simp only [h, if_true]
    by_cases h2 : k = 5
    · subst h2
      rfl
    · simp only [h2, if_false]
  · simp only [h, if_false]
theorem x_p6 (x : Int32) : mput (mkX p σ0 i ρ a P j L f K W) 15 6 x = mkX p σ0 i ρ a x j L f K W := by
  funext c k
  unfold mput mkX
  by_cases h : c = 15
  · simp only [h, if_true]
    by_cases h2 : k = 6
    · subst h2
      rfl
    · simp only [h2, if_false]
  · simp only [h, if_false]
theorem x_q9 (hp : isPo p) (x : Nat) : mput (mkX p σ0 i ρ a P j L f K W) p 9 (nI x) = mkX p σ0 i ρ a P x L f K W := by
  have := po_ne hp
  funext c k
  unfold mput mkX
  by_cases h : c = p
  · subst h
    simp only [if_true]
    by_cases h2 : k = 9
    · subst h2
      simp only [if_true]
      rw [if_neg (by omega)]
    · simp only [h2, if_false]
  · simp only [h, if_false]
theorem x_q3 (hp : isPo p) (x : Int32) : mput (mkX p σ0 i ρ a P j L f K W) p 3 x = mkX p σ0 i ρ a P j x f K W := by
  have := po_ne hp
  funext c k
  unfold mput mkX
  by_cases h : c = p
  · subst h
    simp only [if_true]
    by_cases h2 : k = 3
    · subst h2
      simp only [if_true]
      rw [if_neg (by omega), if_neg (by omega)]
    · simp only [h2, if_false]
  · simp only [h, if_false]
theorem x_q1 (hp : isPo p) (x : Int32) : mput (mkX p σ0 i ρ a P j L f K W) p 1 x = mkX p σ0 i ρ a P j L x K W := by
  have := po_ne hp
  funext c k
  unfold mput mkX
  by_cases h : c = p
  · subst h
    simp only [if_true]
    by_cases h2 : k = 1
    · subst h2
      simp only [if_true]
      rw [if_neg (by omega), if_neg (by omega), if_neg (by omega)]
    · simp only [h2, if_false]
  · simp only [h, if_false]
theorem x_K (hp : isPo p) (n : Nat) (x : Int32) : mput (mkX p σ0 i ρ a P j L f K W) (p + 1) n x = mkX p σ0 i ρ a P j L f (upR1 K n x) W := by
  have := po_ne hp
  funext c k
  unfold mput mkX upR1
  by_cases h : c = p + 1
  · subst h
    have e1 : ¬ p + 1 = 15 := by omega
    have e2 : ¬ p + 1 = p := by omega
    simp only [if_true, e1, e2, if_false]
  · simp only [h, if_false]
theorem x_W (hp : isPo p) (n : Nat) (x : Int32) : mput (mkX p σ0 i ρ a P j L f K W) (p + 2) n x = mkX p σ0 i ρ a P j L f K (upR1 W n x) := by
  have := po_ne hp
  funext c k
  unfold mput mkX upR1
  by_cases h : c = p + 2
  · subst h
    have e1 : ¬ p + 2 = 15 := by omega
    have e2 : ¬ p + 2 = p := by omega
    have e3 : ¬ p + 2 = p + 1 := by omega
    simp only [if_true, e1, e2, e3, if_false]
  · simp only [h, if_false]
end
