def tb (x : Int32) (g : Nat) : Bool := x.toBitVec.getLsbD g
theorem and1_b (y : Int32) : y &&& 1 = 1 ↔ tb y 0 = true := by
  have e : (y &&& 1).toBitVec = BitVec.setWidth 32 (BitVec.ofBool (y.toBitVec.getLsbD 0)) := by
    rw [Int32.toBitVec_and]
    exact BitVec.and_one_eq_setWidth_ofBool_getLsbD
  unfold tb
  constructor
  · intro h
    rw [h] at e
    cases hb : y.toBitVec.getLsbD 0
    · rw [hb] at e
      exact absurd e (by decide)
    · rfl
  · intro h
    rw [h] at e
    exact Int32.toBitVec_inj.mp e
theorem smod_b : (List.range 32).all (fun g => Nat.beq (((nI g &&& 31).toBitVec.smod 32).toNat) g) = true := by decide +kernel
theorem smod_g {g : Nat} (hg : g < 32) : ((nI g &&& 31).toBitVec.smod 32).toNat = g := Nat.eq_of_beq_eq_true (List.all_eq_true.mp smod_b g (List.mem_range.mpr hg))
theorem tb_at {x : Int32} {g : Nat} (hg : g < 32) : bitAt x g ↔ tb x g = true := by
  unfold bitAt
  rw [and1_b]
  unfold tb
  rw [Int32.toBitVec_shiftRight, BitVec.getLsbD_sshiftRight', smod_g hg]
  simp [hg]
theorem tb_or (x y : Int32) (g : Nat) : tb (x ||| y) g = (tb x g || tb y g) := by
  unfold tb
  rw [Int32.toBitVec_or, BitVec.getLsbD_or]
theorem tb_and (x y : Int32) (g : Nat) : tb (x &&& y) g = (tb x g && tb y g) := by
  unfold tb
  rw [Int32.toBitVec_and, BitVec.getLsbD_and]
theorem tb_xor (x y : Int32) (g : Nat) : tb (x ^^^ y) g = (tb x g ^^ tb y g) := by
  unfold tb
  rw [Int32.toBitVec_xor, BitVec.getLsbD_xor]
theorem tb_0 (g : Nat) : tb 0 g = false := by
  unfold tb
  exact BitVec.getLsbD_zero
theorem tb_m1b : (List.range 32).all (fun g => tb (-1) g) = true := by decide +kernel
theorem tb_m1 {g : Nat} (hg : g < 32) : tb (-1) g = true := List.all_eq_true.mp tb_m1b g (List.mem_range.mpr hg)
theorem tb_1b : (List.range 32).all (fun g => (List.range 32).all (fun j => tb ((1 : Int32) <<< (nI g &&& 31)) j == decide (j = g))) = true := by decide +kernel
theorem tb_1 {g j : Nat} (hg : g < 32) (hj : j < 32) : tb ((1 : Int32) <<< (nI g &&& 31)) j = decide (j = g) := eq_of_beq (all2 tb_1b hg hj)
theorem tb_ext {x y : Int32} (h : ∀ g, g < 32 → tb x g = tb y g) : x = y := by
  apply Int32.toBitVec_inj.mp
  apply BitVec.eq_of_getLsbD_eq
  intro i hi
  exact h i hi
theorem hasBit_b {x : Int32} {g : Nat} (hg : g < 32) : Ps_hasBit x (nI g) = b2i (tb x g) := by
  unfold Ps_hasBit
  have := tb_at (x := x) hg
  unfold bitAt at this
  cases e : tb x g
  · rw [if_pos (fun q => by rw [this.mp q] at e; cases e)]
    rfl
  · rw [if_neg (fun q => q (this.mpr e))]
    rfl
/-- how many r below n -/
def cnt (P : Nat → Bool) : Nat → Nat
  | 0 => 0
  | n + 1 => cnt P n + (if P n = true then 1 else 0)
theorem cnt_le (P : Nat → Bool) : ∀ n, cnt P n ≤ n
  | 0 => Nat.le_refl _
  | n + 1 => by
    have := cnt_le P n
    unfold cnt
    split <;> omega
theorem cnt_cg {P Q : Nat → Bool} : ∀ n, (∀ r, r < n → P r = Q r) → cnt P n = cnt Q n
  | 0, _ => rfl
  | n + 1, h => by
    unfold cnt
    rw [cnt_cg n (fun r hr => h r (by omega)), h n (by omega)]
theorem cnt_add (P : Nat → Bool) (a : Nat) : ∀ b, cnt P (a + b) = cnt P a + cnt (fun j => P (a + j)) b
  | 0 => rfl
  | b + 1 => by
    show cnt P (a + b) + _ = _
    rw [cnt_add P a b]
    show _ = cnt P a + (cnt (fun j => P (a + j)) b + _)
    rw [Nat.add_assoc]
    rfl
def un (x : Int32) : Nat := x.toBitVec.toNat
theorem and_split {a b m1 m2 k : Nat} (ha : a < 2 ^ k) (hm : m1 < 2 ^ k) : (2 ^ k * b + a) &&& (2 ^ k * m2 + m1) = 2 ^ k * (b &&& m2) + (a &&& m1) := by
  have hx : a &&& m1 < 2 ^ k := Nat.lt_of_le_of_lt Nat.and_le_left ha
  apply Nat.eq_of_testBit_eq
  intro j
  rw [Nat.testBit_and, Nat.testBit_two_pow_mul_add _ ha, Nat.testBit_two_pow_mul_add _ hm, Nat.testBit_two_pow_mul_add _ hx]
  split
  · rw [Nat.testBit_and]
  · rw [Nat.testBit_and]
def pc8 (a : Nat) : Nat := cnt (fun j => a.testBit j) 8
def g1 (a : Nat) : Nat := a - ((a / 2) &&& 85)
def g2 (a : Nat) : Nat := (a &&& 51) + ((a / 4) &&& 51)
theorem p8_b : (List.range 256).all (fun a => Nat.ble ((a / 2) &&& 85) a && Nat.blt (g1 a) 256 && Nat.blt (g2 (g1 a)) 69 && Nat.blt (g2 (g1 a) % 16) 5 && Nat.blt (g2 (g1 a) / 16) 5 && Nat.beq (g2 (g1 a) % 16 + g2 (g1 a) / 16) (pc8 a) && Nat.ble (pc8 a) 8) = true := by decide +kernel
theorem p8 {a : Nat} (ha : a < 256) : (a / 2) &&& 85 ≤ a ∧ g1 a < 256 ∧ g2 (g1 a) < 69 ∧ g2 (g1 a) % 16 < 5 ∧ g2 (g1 a) / 16 < 5 ∧ g2 (g1 a) % 16 + g2 (g1 a) / 16 = pc8 a ∧ pc8 a ≤ 8 := by
  have h := List.all_eq_true.mp p8_b a (List.mem_range.mpr ha)
  simp only [Bool.and_eq_true, Nat.ble_eq, Nat.blt_eq, Nat.beq_eq_true_eq] at h
  obtain ⟨⟨⟨⟨⟨⟨h1, h2⟩, h3⟩, h4⟩, h5⟩, h6⟩, h7⟩ := h
  exact ⟨h1, h2, h3, h4, h5, Nat.eq_of_beq_eq_true h6, h7⟩
/-- a mask of one byte, four times -/
theorem and4 {a b c d m x y z w : Nat} (ha : a < 256) (hb : b < 256) (hc : c < 256) (hd : d < 256) (hm : m < 256) (h1 : a &&& m = x) (h2 : b &&& m = y) (h3 : c &&& m = z) (h4 : d &&& m = w) : (a + 256 * b + 65536 * c + 16777216 * d) &&& (m + 256 * m + 65536 * m + 16777216 * m) = x + 256 * y + 65536 * z + 16777216 * w := by
  have e1 := and_split (a := c) (b := d) (m1 := m) (m2 := m) (k := 8) hc hm
  have e2 := and_split (a := b) (b := 2 ^ 8 * d + c) (m1 := m) (m2 := 2 ^ 8 * m + m) (k := 8) hb hm
  have e3 := and_split (a := a) (b := 2 ^ 8 * (2 ^ 8 * d + c) + b) (m1 := m) (m2 := 2 ^ 8 * (2 ^ 8 * m + m) + m) (k := 8) ha hm
  rw [e2, e1, h1, h2, h3, h4] at e3
  have f1 : a + 256 * b + 65536 * c + 16777216 * d = 2 ^ 8 * (2 ^ 8 * (2 ^ 8 * d + c) + b) + a := by omega
  have f2 : m + 256 * m + 65536 * m + 16777216 * m = 2 ^ 8 * (2 ^ 8 * (2 ^ 8 * m + m) + m) + m := by omega
  rw [f1, f2, e3]
  omega
theorem half_b : (List.range 256).all (fun a => (List.range 2).all (fun c => Nat.beq ((a / 2 + 128 * c) &&& 85) ((a / 2) &&& 85))) = true := by decide +kernel
theorem quar_b : (List.range 256).all (fun a => (List.range 4).all (fun c => Nat.beq ((a / 4 + 64 * c) &&& 51) ((a / 4) &&& 51))) = true := by decide +kernel
theorem nibl_b : (List.range 69).all (fun a => (List.range 5).all (fun c => !(Nat.blt (a % 16) 5 && Nat.blt (a / 16) 5) || Nat.beq ((a + a / 16 + 16 * c) &&& 15) (a % 16 + a / 16))) = true := by decide +kernel
theorem half_a {a c : Nat} (ha : a < 256) (hc : c < 2) : (a / 2 + 128 * c) &&& 85 = (a / 2) &&& 85 := Nat.eq_of_beq_eq_true (all2 half_b ha hc)
theorem quar_a {a c : Nat} (ha : a < 256) (hc : c < 4) : (a / 4 + 64 * c) &&& 51 = (a / 4) &&& 51 := Nat.eq_of_beq_eq_true (all2 quar_b ha hc)
theorem nibl_a {a c : Nat} (ha : a < 69) (hc : c < 5) (h1 : a % 16 < 5) (h2 : a / 16 < 5) : (a + a / 16 + 16 * c) &&& 15 = a % 16 + a / 16 := by
  have := all2 nibl_b ha hc
  rw [show Nat.blt (a % 16) 5 = true from by simpa [Nat.blt_eq] using h1, show Nat.blt (a / 16) 5 = true from by simpa [Nat.blt_eq] using h2] at this
  exact Nat.eq_of_beq_eq_true this
