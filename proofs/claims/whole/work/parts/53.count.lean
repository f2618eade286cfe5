theorem bitc_c (x : Int32) : bitc x = nI (cnt (tb x) 32) := by
  obtain ⟨a, b, c, d, ha, hb, hc, hd, e⟩ := bytes4 (un_lt x)
  rw [← by4_e] at e
  rw [bitc_b ha hb hc hd e]
  have tbx : ∀ g, tb x g = (un x).testBit g := fun g => rfl
  have sp : ∀ (a N j : Nat), a < 256 → (a + 256 * N).testBit j = if j < 8 then a.testBit j else N.testBit (j - 8) := fun a N j h => by
    rw [Nat.add_comm]
    exact Nat.testBit_two_pow_mul_add N (i := 8) h j
  have go : ∀ (a N : Nat) (m : Nat), a < 256 → cnt (fun j => (a + 256 * N).testBit j) (8 + m) = pc8 a + cnt (fun j => N.testBit j) m := fun a N m h => by
    rw [cnt_add, cnt_cg (Q := fun j => a.testBit j) 8 (fun r hr => by
      show (a + 256 * N).testBit r = _
      rw [sp a N r h, if_pos hr]), cnt_cg (Q := fun j => N.testBit j) m (fun r hr => by
      show (a + 256 * N).testBit (8 + r) = _
      rw [sp a N (8 + r) h, if_neg (by omega), show 8 + r - 8 = r by omega])]
    rfl
  congr 1
  rw [cnt_cg (P := tb x) (Q := fun j => (a + 256 * (b + 256 * (c + 256 * d))).testBit j) 32 (fun r _ => by rw [tbx, e])]
  rw [show (32 : Nat) = 8 + (8 + (8 + 8)) from rfl, go _ _ _ ha, go _ _ _ hb, go _ _ _ hc]
  show _ = pc8 a + (pc8 b + (pc8 c + pc8 d))
  omega
/-- the bit of request r in 64 words -/
def rb (W : Nat → Int32) (r : Nat) : Bool := tb (W (r / 32)) (r % 32)
theorem X_cnt {σ : Mem} {v0 : Nat} : ∀ (d w n : Nat), w + d = 64 → d < n → Ps_countBits_b4 n v0 (nI (cnt (rb (σ v0)) (32 * w))) (nI w) σ = some (nI (cnt (rb (σ v0)) 2048)) := by
  intro d
  induction d with
  | zero =>
    intro w n hw hn
    obtain ⟨n, rfl⟩ : ∃ m, n = m + 1 := ⟨n - 1, by omega⟩
    obtain rfl : w = 64 := by omega
    rw [Ps_countBits_b4, if_pos (by decide)]
  | succ d ih =>
    intro w n hw hn
    obtain ⟨n, rfl⟩ : ∃ m, n = m + 1 := ⟨n - 1, by omega⟩
    have n64 : ¬ (64 : Int32) ≤ nI w := nI_ge (a := w) (b := 64) (by omega) (by omega)
    have := ih (w + 1) n (by omega) (by omega)
    rw [Ps_countBits_b4, if_neg n64, if_pos (pmIn_nI (by omega) (by omega)), nI_clamp (by omega), nI_1, bitc_c, nI_add, ← this, Nat.mul_add, cnt_add, cnt_cg (P := fun j => rb (σ v0) (32 * w + j)) (Q := tb (σ v0 w)) 32 (fun r hr => by
      show tb (σ v0 ((32 * w + r) / 32)) ((32 * w + r) % 32) = _
      rw [show (32 * w + r) / 32 = w by omega, show (32 * w + r) % 32 = r by omega])]
theorem X_count {σ : Mem} {v0 : Nat} : Ps_countBits v0 σ = some (nI (cnt (rb (σ v0)) 2048)) := X_cnt 64 0 2100 (by omega) (by omega)
/-- the first, the last r below n; -1 if there is none -/
def fstR (P : Nat → Bool) : Nat → Int32
  | 0 => -1
  | n + 1 => if 0 ≤ fstR P n then fstR P n else if P n = true then nI n else -1
def lstR (P : Nat → Bool) : Nat → Int32
  | 0 => -1
  | n + 1 => if P n = true then nI n else lstR P n
theorem fstR_no {P : Nat → Bool} : ∀ n, (∀ j, j < n → P j = false) → fstR P n = -1
  | 0, _ => rfl
  | n + 1, h => by
    unfold fstR
    rw [fstR_no n (fun j hj => h j (by omega)), if_neg (by decide), if_neg (by rw [h n (by omega)]; decide)]
theorem fstR_at {P : Nat → Bool} {r : Nat} (h : ∀ j, j < r → P j = false) (hr : P r = true) (hb : r < 2048) : ∀ d, fstR P (r + 1 + d) = nI r
  | 0 => by
    show (if 0 ≤ fstR P r then _ else _) = _
    rw [fstR_no r h, if_neg (by decide), if_pos hr]
  | d + 1 => by
    show (if 0 ≤ fstR P (r + 1 + d) then _ else _) = _
    rw [fstR_at h hr hb d, if_pos (nI_pos' (by omega))]
    exact fstR_at h hr hb d
theorem fstR_cg {P Q : Nat → Bool} : ∀ n, (∀ r, r < n → P r = Q r) → fstR P n = fstR Q n
  | 0, _ => rfl
  | n + 1, h => by
    unfold fstR
    rw [fstR_cg n (fun r hr => h r (by omega)), h n (by omega)]
theorem lstR_cg {P Q : Nat → Bool} : ∀ n, (∀ r, r < n → P r = Q r) → lstR P n = lstR Q n
  | 0, _ => rfl
  | n + 1, h => by
    unfold lstR
    rw [lstR_cg n (fun r hr => h r (by omega)), h n (by omega)]
theorem rb_has {σ : Mem} {v0 r : Nat} (hr : r < 2048) : pmIn (nI r / 32) 64 = true ∧ Ps_hasBit (σ v0 (nI r / 32).toNatClampNeg) (nI r - nI r / 32 * 32) = b2i (rb (σ v0) r) := by
  rw [show (32 : Int32) = nI 32 from rfl, pk_rem (by omega) (by omega) (by omega), pk_div (by omega) (by omega) (by omega), nI_clamp (by omega), hasBit_b (by omega)]
  exact ⟨pmIn_nI (by omega) (by omega), rfl⟩
theorem X_fst {σ : Mem} {v0 : Nat} : ∀ (d r n : Nat), r + d = 2048 → d < n → (∀ j, j < r → rb (σ v0) j = false) → Ps_firstBit_b2 n v0 (nI r) σ = some (fstR (rb (σ v0)) 2048) := by
  intro d
  induction d with
  | zero =>
    intro r n hr hn h
    obtain ⟨n, rfl⟩ : ∃ m, n = m + 1 := ⟨n - 1, by omega⟩
    obtain rfl : r = 2048 := by omega
    rw [Ps_firstBit_b2, if_pos (by decide), fstR_no 2048 h]
  | succ d ih =>
    intro r n hr hn h
    obtain ⟨n, rfl⟩ : ∃ m, n = m + 1 := ⟨n - 1, by omega⟩
    obtain ⟨q1, q2⟩ := rb_has (σ := σ) (v0 := v0) (r := r) (by omega)
    have nn : ¬ (64 * 32 : Int32) ≤ nI r := by
      rw [show (64 * 32 : Int32) = nI 2048 from by decide]
      exact nI_ge (by omega) (by omega)
    rw [Ps_firstBit_b2, if_neg nn, if_pos q1, q2, nI_1]
    cases e : rb (σ v0) r
    · rw [if_pos (show b2i false = 0 from rfl)]
      exact ih (r + 1) n (by omega) (by omega) (fun j hj => by
        by_cases hjr : j = r
        · rw [hjr]; exact e
        · exact h j (by omega))
    · rw [if_neg (by decide)]
      have := fstR_at h e (by omega) d
      rw [show r + 1 + d = 2048 by omega] at this
      rw [this]
theorem X_first {σ : Mem} {v0 : Nat} : Ps_firstBit v0 σ = some (fstR (rb (σ v0)) 2048) := X_fst 2048 0 2100 (by omega) (by omega) (fun j hj => absurd hj (Nat.not_lt_zero j))
theorem X_lst {σ : Mem} {v0 : Nat} : ∀ (k n : Nat), k ≤ 2048 → k < n → Ps_lastBit_b8 n v0 (nI k - 1) σ = some (lstR (rb (σ v0)) k) := by
  intro k
  induction k with
  | zero =>
    intro n hk hn
    obtain ⟨n, rfl⟩ : ∃ m, n = m + 1 := ⟨n - 1, by omega⟩
    rw [Ps_lastBit_b8, if_pos (by decide)]
    rfl
  | succ k ih =>
    intro n hk hn
    obtain ⟨n, rfl⟩ : ∃ m, n = m + 1 := ⟨n - 1, by omega⟩
    obtain ⟨q1, q2⟩ := rb_has (σ := σ) (v0 := v0) (r := k) (by omega)
    rw [nI_pred, Ps_lastBit_b8, if_neg (nI_pos (by omega)), if_pos q1, q2]
    have := ih n (by omega) (by omega)
    unfold lstR
    cases e : rb (σ v0) k
    · rw [if_pos (show b2i false = 0 from rfl), show nI k + (-1) = nI k - 1 from by rw [Int32.sub_eq_add_neg], this, if_neg (by decide)]
    · rw [if_neg (by decide), if_pos rfl]
theorem X_last {σ : Mem} {v0 : Nat} : Ps_lastBit v0 σ = some (lstR (rb (σ v0)) 2048) := by
  have := X_lst (σ := σ) (v0 := v0) 2048 2100 (by omega) (by omega)
  rw [show nI 2048 - 1 = (64 * 32) - 1 from by decide] at this
  exact this
