theorem un_lt (x : Int32) : un x < 4294967296 := x.toBitVec.isLt
theorem un_and (x y : Int32) : un (x &&& y) = un x &&& un y := by
  unfold un
  rw [Int32.toBitVec_and, BitVec.toNat_and]
theorem un_add {x y : Int32} (h : un x + un y < 4294967296) : un (x + y) = un x + un y := by
  unfold un at h ⊢
  rw [Int32.toBitVec_add, BitVec.toNat_add, Nat.mod_eq_of_lt h]
theorem un_sub {x y : Int32} (h : un y ≤ un x) : un (x - y) = un x - un y := by
  have hx := un_lt x
  unfold un at h hx ⊢
  rw [Int32.toBitVec_sub, BitVec.toNat_sub_of_le h]
theorem un_inj {x y : Int32} (h : un x = un y) : x = y := Int32.toBitVec_inj.mp (BitVec.eq_of_toNat_eq h)
theorem un_usr {x y : Int32} {k : Nat} (hk : k < 32) (hy : (y.toUInt32 &&& Int32.toUInt32 31).toNat = k) : un (usr x y) = un x / 2 ^ k := by
  unfold usr un
  show (x.toUInt32 >>> (y.toUInt32 &&& Int32.toUInt32 31)).toBitVec.toNat = _
  rw [UInt32.toNat_toBitVec, UInt32.toNat_shiftRight, hy, Nat.mod_eq_of_lt hk, Nat.shiftRight_eq_div_pow]
  rfl
theorem bytes4 {n : Nat} (h : n < 4294967296) : ∃ a b c d, a < 256 ∧ b < 256 ∧ c < 256 ∧ d < 256 ∧ n = a + 256 * b + 65536 * c + 16777216 * d := ⟨n % 256, n / 256 % 256, n / 65536 % 256, n / 16777216, by omega, by omega, by omega, by omega, by omega⟩
theorem d2 (a n : Nat) : (a + 256 * n) / 2 = (a / 2 + 128 * (n % 2)) + 256 * (n / 2) := by omega
theorem m2 (b n : Nat) : (b + 256 * n) % 2 = b % 2 := by omega
theorem d4 (a n : Nat) : (a + 256 * n) / 4 = (a / 4 + 64 * (n % 4)) + 256 * (n / 4) := by omega
theorem m4 (b n : Nat) : (b + 256 * n) % 4 = b % 4 := by omega
theorem d16 (a n : Nat) : (a + 256 * n) / 16 = (a / 16 + 16 * (n % 16)) + 256 * (n / 16) := by omega
theorem m16 (b n : Nat) : (b + 256 * n) % 16 = b % 16 := by omega
abbrev by4 (a b c d : Nat) : Nat := a + 256 * (b + 256 * (c + 256 * d))
theorem by4_e {a b c d : Nat} : by4 a b c d = a + 256 * b + 65536 * c + 16777216 * d := by
  unfold by4
  omega
theorem and4n {a b c d m x y z w : Nat} (ha : a < 256) (hb : b < 256) (hc : c < 256) (hd : d < 256) (hm : m < 256) (h1 : a &&& m = x) (h2 : b &&& m = y) (h3 : c &&& m = z) (h4 : d &&& m = w) : by4 a b c d &&& by4 m m m m = by4 x y z w := by
  rw [by4_e, by4_e, by4_e]
  exact and4 ha hb hc hd hm h1 h2 h3 h4
theorem hf_lt {a c : Nat} (ha : a < 256) (hc : c < 2) : a / 2 + 128 * c < 256 := by omega
theorem qr_lt {a c : Nat} (ha : a < 256) (hc : c < 4) : a / 4 + 64 * c < 256 := by omega
theorem nb_lt {a c : Nat} (ha : a < 69) (hc : c < 5) : a + a / 16 + 16 * c < 256 := by omega
theorem mod2_lt (a : Nat) : a % 2 < 2 := by omega
theorem mod4_lt (a : Nat) : a % 4 < 4 := by omega
theorem div_lt {a m : Nat} (ha : a < 256) : a / m < 256 := Nat.lt_of_le_of_lt (Nat.div_le_self a m) ha
theorem sub4b {a b c d x y z w : Nat} (h1 : x ≤ a) (h2 : y ≤ b) (h3 : z ≤ c) (h4 : w ≤ d) : by4 x y z w ≤ by4 a b c d ∧ by4 a b c d - by4 x y z w = by4 (a - x) (b - y) (c - z) (d - w) := by
  unfold by4
  omega
theorem add4b {a b c d x y z w : Nat} : by4 a b c d + by4 x y z w = by4 (a + x) (b + y) (c + z) (d + w) := by
  unfold by4
  omega
theorem lt4b {a b c d : Nat} (h1 : a < 256) (h2 : b < 256) (h3 : c < 256) (h4 : d < 256) : by4 a b c d < 4294967296 := by
  unfold by4
  omega
theorem un_bc1 {x : Int32} {a b c d : Nat} (ha : a < 256) (hb : b < 256) (hc : c < 256) (hd : d < 256) (h : un x = by4 a b c d) : un (bc1 x) = by4 (g1 a) (g1 b) (g1 c) (g1 d) := by
  have hm : un (1431655765 : Int32) = by4 85 85 85 85 := by decide
  have e : un (usr x 1 &&& 1431655765) = by4 (a / 2 &&& 85) (b / 2 &&& 85) (c / 2 &&& 85) (d / 2 &&& 85) := by
    rw [un_and, hm, un_usr (k := 1) (by omega) (by decide), h, Nat.pow_one]
    show (a + 256 * (b + 256 * (c + 256 * d))) / 2 &&& _ = _
    rw [d2, m2, d2, m2, d2]
    exact and4n (hf_lt ha (mod2_lt b)) (hf_lt hb (mod2_lt c)) (hf_lt hc (mod2_lt d)) (div_lt hd) (by decide) (half_a ha (mod2_lt b)) (half_a hb (mod2_lt c)) (half_a hc (mod2_lt d)) rfl
  obtain ⟨q1, q2⟩ := sub4b (p8 ha).1 (p8 hb).1 (p8 hc).1 (p8 hd).1
  unfold bc1
  rw [un_sub (by rw [e, h]; exact q1), e, h, q2]
  rfl
theorem un_bc2 {x : Int32} {a b c d : Nat} (ha : a < 256) (hb : b < 256) (hc : c < 256) (hd : d < 256) (la : g2 a < 69) (lb : g2 b < 69) (lc : g2 c < 69) (ld : g2 d < 69) (h : un x = by4 a b c d) : un (bc2 x) = by4 (g2 a) (g2 b) (g2 c) (g2 d) := by
  have hm : un (858993459 : Int32) = by4 51 51 51 51 := by decide
  have e1 : un (x &&& 858993459) = by4 (a &&& 51) (b &&& 51) (c &&& 51) (d &&& 51) := by
    rw [un_and, hm, h]
    exact and4n ha hb hc hd (by decide) rfl rfl rfl rfl
  have e2 : un (usr x 2 &&& 858993459) = by4 (a / 4 &&& 51) (b / 4 &&& 51) (c / 4 &&& 51) (d / 4 &&& 51) := by
    rw [un_and, hm, un_usr (k := 2) (by omega) (by decide), h]
    show (a + 256 * (b + 256 * (c + 256 * d))) / 4 &&& _ = _
    rw [d4, m4, d4, m4, d4]
    exact and4n (qr_lt ha (mod4_lt b)) (qr_lt hb (mod4_lt c)) (qr_lt hc (mod4_lt d)) (div_lt hd) (by decide) (quar_a ha (mod4_lt b)) (quar_a hb (mod4_lt c)) (quar_a hc (mod4_lt d)) rfl
  have up : ∀ {v}, v < 69 → v < 256 := fun h => Nat.lt_trans h (by decide)
  have hs : by4 (a &&& 51) (b &&& 51) (c &&& 51) (d &&& 51) + by4 (a / 4 &&& 51) (b / 4 &&& 51) (c / 4 &&& 51) (d / 4 &&& 51) = by4 (g2 a) (g2 b) (g2 c) (g2 d) := add4b
  unfold bc2
  rw [un_add (by rw [e1, e2, hs]; exact lt4b (up la) (up lb) (up lc) (up ld)), e1, e2, hs]
theorem un_bc3 {x : Int32} {a b c d : Nat} (ha : a < 69) (hb : b < 69) (hc : c < 69) (hd : d < 69) (na : a % 16 < 5 ∧ a / 16 < 5) (nb : b % 16 < 5 ∧ b / 16 < 5) (nc : c % 16 < 5 ∧ c / 16 < 5) (nd : d % 16 < 5 ∧ d / 16 < 5) (h : un x = by4 a b c d) : un (bc3 x) = by4 (a % 16 + a / 16) (b % 16 + b / 16) (c % 16 + c / 16) (d % 16 + d / 16) := by
  have hm : un (252645135 : Int32) = by4 15 15 15 15 := by decide
  have e : un (usr x 4) = by4 (a / 16 + 16 * (b % 16)) (b / 16 + 16 * (c % 16)) (c / 16 + 16 * (d % 16)) (d / 16 + 16 * 0) := by
    rw [un_usr (k := 4) (by omega) (by decide), h]
    show (a + 256 * (b + 256 * (c + 256 * d))) / 16 = _
    rw [d16, m16, d16, m16, d16]
    rfl
  have hs : by4 a b c d + by4 (a / 16 + 16 * (b % 16)) (b / 16 + 16 * (c % 16)) (c / 16 + 16 * (d % 16)) (d / 16 + 16 * 0) = by4 (a + a / 16 + 16 * (b % 16)) (b + b / 16 + 16 * (c % 16)) (c + c / 16 + 16 * (d % 16)) (d + d / 16 + 16 * 0) := by
    rw [add4b, Nat.add_assoc, Nat.add_assoc b, Nat.add_assoc c, Nat.add_assoc d]
  have ra := nb_lt ha nb.1
  have rb := nb_lt hb nc.1
  have rc := nb_lt hc nd.1
  have rd := nb_lt hd (show 0 < 5 by decide)
  unfold bc3
  rw [un_and, hm, un_add (by rw [h, e, hs]; exact lt4b ra rb rc rd), h, e, hs]
  exact and4n ra rb rc rd (by decide) (nibl_a ha nb.1 na.1 na.2) (nibl_a hb nc.1 nb.1 nb.2) (nibl_a hc nd.1 nc.1 nc.2) (nibl_a hd (by decide) nd.1 nd.2)
theorem un_nI {n : Nat} (h : n < 4294967296) : un (nI n) = n := by
  unfold un nI
  show (Int32.ofNat n).toBitVec.toNat = n
  rw [Int32.toBitVec_ofNat', BitVec.toNat_ofNat]
  exact Nat.mod_eq_of_lt h
theorem bitc_b {x : Int32} {a b c d : Nat} (ha : a < 256) (hb : b < 256) (hc : c < 256) (hd : d < 256) (h : un x = by4 a b c d) : bitc x = nI (pc8 a + pc8 b + pc8 c + pc8 d) := by
  obtain ⟨-, a1, a2, a3, a4, a5, a6⟩ := p8 ha
  obtain ⟨-, b1, b2, b3, b4, b5, b6⟩ := p8 hb
  obtain ⟨-, c1, c2, c3, c4, c5, c6⟩ := p8 hc
  obtain ⟨-, d1, d2, d3, d4, d5, d6⟩ := p8 hd
  have s3 := un_bc3 a2 b2 c2 d2 ⟨a3, a4⟩ ⟨b3, b4⟩ ⟨c3, c4⟩ ⟨d3, d4⟩ (un_bc2 a1 b1 c1 d1 a2 b2 c2 d2 (un_bc1 ha hb hc hd h))
  rw [a5, b5, c5, d5] at s3
  unfold bitc
  generalize bc3 (bc2 (bc1 x)) = y at s3 ⊢
  clear a1 a2 a3 a4 a5 b1 b2 b3 b4 b5 c1 c2 c3 c4 c5 d1 d2 d3 d4 d5
  generalize pc8 a = p at a6 s3 ⊢
  generalize pc8 b = q at b6 s3 ⊢
  generalize pc8 c = r at c6 s3 ⊢
  generalize pc8 d = s at d6 s3 ⊢
  clear h ha hb hc hd
  rw [by4_e] at s3
  have e4 : un (usr y 8) = q + 256 * r + 65536 * s := by
    rw [un_usr (k := 8) (by omega) (by decide), s3]
    omega
  have s4 : un (bc4 y) = (p + q) + 256 * (q + r) + 65536 * (r + s) + 16777216 * s := by
    unfold bc4
    rw [un_add (by rw [e4, s3]; omega), e4, s3]
    omega
  have e5 : un (usr (bc4 y) 16) = (r + s) + 256 * s := by
    rw [un_usr (k := 16) (by omega) (by decide), s4]
    omega
  have s5 : un (bc5 (bc4 y)) = (p + q + r + s) + 64 * (4 * (q + r + s) + 1024 * (r + s) + 262144 * s) := by
    unfold bc5
    rw [un_add (by rw [e5, s4]; omega), e5, s4]
    omega
  apply un_inj
  rw [un_and, s5, show un (63 : Int32) = 63 from by decide, show (63 : Nat) = 2 ^ 6 - 1 from rfl, Nat.and_two_pow_sub_one_eq_mod, un_nI (by omega)]
  omega
