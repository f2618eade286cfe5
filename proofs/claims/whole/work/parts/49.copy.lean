theorem CodeM_cg {τ : Mem} {p m i j : Nat} {k w k1 w1 : Nat → Int32} (h : CodeM τ p m i j k1 w1) (e : ∀ q, i ≤ q → q < j → k1 q = k q ∧ w1 q = w q) : CodeM τ p m i j k w :=
  ⟨h.1, h.2.1, h.2.2.1, h.2.2.2.1, fun q a b => ⟨(h.2.2.2.2 q a b).1.trans (e q a b).1, (h.2.2.2.2 q a b).2.trans (e q a b).2⟩⟩
theorem CodeX_cg {σ : Mem} {p m i j : Nat} {k w k1 w1 : Nat → Int32} (h : CodeX σ p m i j k1 w1) (e : ∀ q, i ≤ q → q < j → k1 q = k q ∧ w1 q = w q) : CodeX σ p m i j k w :=
  ⟨h.1, h.2.1, h.2.2.1, fun q a b => ⟨(h.2.2.2 q a b).1.trans (e q a b).1, (h.2.2.2 q a b).2.trans (e q a b).2⟩⟩
theorem SegM_cg {k w k1 w1 : Nat → Int32} {i j a : Nat} {e : Den} (h : SegM k w i j a e) (c : ∀ q, i ≤ q → q < j → k1 q = k q ∧ w1 q = w q) : SegM k1 w1 i j a e :=
  ⟨h.1, h.2.1, fun p m r σw τw τ S h1 h2 h3 h4 h5 h6 => h.2.2 p m r σw τw τ S h1 h2 h3 (CodeM_cg h4 c) h5 h6⟩
theorem ChM_cg {x : Int32} {k w k1 w1 : Nat → Int32} {i j T a : Nat} {e : Den} (h : ChM x k w i j T a e) (c : ∀ q, i ≤ q → q < j → k1 q = k q ∧ w1 q = w q) : ChM x k1 w1 i j T a e :=
  ⟨h.1, h.2.1, fun p m r σw τw τ S h1 h2 h3 h4 h5 h6 => h.2.2 p m r σw τw τ S h1 h2 h3 (CodeM_cg h4 c) h5 h6⟩
theorem SegX_cg {k w k1 w1 : Nat → Int32} {i j a : Nat} {e : Den} (h : SegX k w i j a e) (c : ∀ q, i ≤ q → q < j → k1 q = k q ∧ w1 q = w q) : SegX k1 w1 i j a e :=
  ⟨h.1, h.2.1, fun p m n r σw σ S ρ h1 h2 h3 h4 h5 h6 h7 h8 h9 => h.2.2 p m n r σw σ S ρ h1 h2 h3 h4 (CodeX_cg h5 c) h6 h7 h8 h9⟩
theorem CondsM_cg {k w k1 w1 : Nat → Int32} {m : Nat} : ∀ (cs : List (Den × Bool)) (i : Nat), CondsM k w m i cs → (∀ q, i ≤ q → q < m → k1 q = k q ∧ w1 q = w q) → CondsM k1 w1 m i cs
  | [], i, h, _ => h
  | (e, u) :: cs, i, h, c => by
    obtain ⟨q, a, h1, h2, h3, h4, h5, h6⟩ := h
    have := h1.1
    exact ⟨q, a, SegM_cg h1 (fun z x y => c z x (by omega)), h2, h3, h4, by rw [(c q (by omega) (by omega)).1]; exact h5, CondsM_cg cs (q + 1) h6 (fun z x y => c z (by omega) y)⟩
theorem CondsX_cg {k w k1 w1 : Nat → Int32} {m : Nat} : ∀ (cs : List (Den × Bool)) (i : Nat), CondsX k w m i cs → (∀ q, i ≤ q → q < m → k1 q = k q ∧ w1 q = w q) → CondsX k1 w1 m i cs
  | [], i, h, _ => h
  | (e, u) :: cs, i, h, c => by
    obtain ⟨q, a, h1, h2, h3, h4⟩ := h
    have := h1.1
    refine ⟨q, a, SegX_cg h1 (fun z x y => c z x ?_), h2, h3, ?_⟩
    · split at h4 <;> omega
    · split at h4
      · rename_i hu
        rw [if_pos hu]
        exact ⟨h4.1, by rw [(c q (by omega) (by omega)).1]; exact h4.2.1, by rw [(c (q + 1) (by omega) (by omega)).1]; exact h4.2.2.1, CondsX_cg cs (q + 2) h4.2.2.2 (fun z x y => c z (by omega) y)⟩
      · rename_i hu
        rw [if_neg hu]
        exact ⟨h4.1, by rw [(c q (by omega) (by omega)).1]; exact h4.2.1, CondsX_cg cs (q + 1) h4.2.2 (fun z x y => c z (by omega) y)⟩
/-- the reference's policy b of τ1 is policy a of τ -/
def EqP (τ1 : Mem) (b : Nat) (τ : Mem) (a : Nat) : Prop := τ1 7 b = τ 7 a ∧ τ1 9 b = τ 9 a ∧ τ1 10 b = τ 10 a ∧ τ1 11 b = τ 11 a ∧ (∀ k, k < 3 → τ1 8 (3 * b + k) = τ 8 (3 * a + k)) ∧ ∀ k, k < 160 → τ1 12 (160 * b + k) = τ 12 (160 * a + k) ∧ τ1 13 (160 * b + k) = τ 13 (160 * a + k)
def CpM (τ : Mem) (a b : Nat) (τ1 : Mem) : Prop := (∀ c, c < 7 ∨ 13 < c → τ1 c = τ c) ∧ EqP τ1 b τ a ∧ ∀ q, q < 17 → q ≠ b → EqP τ1 q τ q
theorem EqP_rf (τ : Mem) (a : Nat) : EqP τ a τ a := ⟨rfl, rfl, rfl, rfl, fun _ _ => rfl, fun _ _ => ⟨rfl, rfl⟩⟩
theorem EqP_tr {τ2 τ1 τ : Mem} {c b a : Nat} (h1 : EqP τ2 c τ1 b) (h2 : EqP τ1 b τ a) : EqP τ2 c τ a :=
  ⟨h1.1.trans h2.1, h1.2.1.trans h2.2.1, h1.2.2.1.trans h2.2.2.1, h1.2.2.2.1.trans h2.2.2.2.1, fun k hk => (h1.2.2.2.2.1 k hk).trans (h2.2.2.2.2.1 k hk), fun k hk => ⟨(h1.2.2.2.2.2 k hk).1.trans (h2.2.2.2.2.2 k hk).1, (h1.2.2.2.2.2 k hk).2.trans (h2.2.2.2.2.2 k hk).2⟩⟩
theorem PolM_eq {τ τ1 : Mem} {a b : Nat} {cs : List (Den × Bool)} (h : PolM τ a cs) (e : EqP τ1 b τ a) : PolM τ1 b cs := by
  obtain ⟨m, h1, h2, h3⟩ := h
  exact ⟨m, e.2.2.2.1.trans h1, h2, CondsM_cg cs 0 h3 (fun q _ y => e.2.2.2.2.2 q (by omega))⟩
theorem PolS_eq {σ τ τ1 : Mem} {p a b : Nat} (h : PolS σ τ p a) (e : EqP τ1 b τ a) : PolS σ τ1 p b := by
  obtain ⟨h1, h2, h3, h4, h5⟩ := h
  obtain ⟨e7, e9, e10, e11, e8, -⟩ := e
  have k0 := e8 0 (by omega)
  have k1 := e8 1 (by omega)
  have k2 := e8 2 (by omega)
  exact ⟨h1, ⟨k0.trans h2.1, k1.trans h2.2.1, k2.trans h2.2.2⟩, ⟨e7.trans h3.1, h3.2⟩, ⟨e10.trans h4.1, h4.2⟩, e9.trans h5⟩
theorem RelP_eq {σ τ τ1 : Mem} {M p a b : Nat} (h : RelP σ τ M p a) (e : EqP τ1 b τ a) : RelP σ τ1 M p b := by
  obtain ⟨cs, h1, h2, h3, h4, h5, h6, h7⟩ := h
  exact ⟨cs, h1, PolM_eq h2 e, h3, h4, PolS_eq h5 e, h6, h7⟩
/-- rows of w slots each: policy b's first k slots of cell c are a's -/
def cpR (w : Nat) (τ : Mem) (a b k c : Nat) (τ1 : Mem) : Prop := ∀ q t, t < w → τ1 c (w * q + t) = if q = b ∧ t < k then τ c (w * a + t) else τ c (w * q + t)
theorem mul_in {w q t b k : Nat} (ht : t < w) (hk : k < w) : w * q + t = w * b + k ↔ q = b ∧ t = k := by
  constructor
  · intro h
    have h1 : q = b := by
      have e1 : (w * q + t) / w = q := by rw [Nat.mul_add_div (by omega), Nat.div_eq_of_lt ht, Nat.add_zero]
      have e2 : (w * b + k) / w = b := by rw [Nat.mul_add_div (by omega), Nat.div_eq_of_lt hk, Nat.add_zero]
      rw [← e1, ← e2, h]
    subst h1
    exact ⟨rfl, by omega⟩
  · rintro ⟨rfl, rfl⟩
    rfl
theorem cpR_put {w : Nat} {τ τ1 : Mem} {a b k c : Nat} (hab : a ≠ b) (hk : k < w) (h : cpR w τ a b k c τ1) : cpR w τ a b (k + 1) c (mput τ1 c (w * b + k) (τ1 c (w * a + k))) := by
  intro q t ht
  have ra : τ1 c (w * a + k) = τ c (w * a + k) := by rw [h a k hk, if_neg (fun z => hab z.1)]
  by_cases e : q = b ∧ t = k
  · obtain ⟨rfl, rfl⟩ := e
    rw [mput_eq, if_pos ⟨rfl, by omega⟩, ra]
  · rw [mput_ne (fun z => e ((mul_in ht hk).mp z.2)), h q t ht]
    by_cases e2 : q = b ∧ t < k
    · rw [if_pos e2, if_pos ⟨e2.1, by omega⟩]
    · rw [if_neg e2, if_neg (fun z => by omega)]
theorem cpR_cg {w : Nat} {τ τ1 τ2 : Mem} {a b k c : Nat} (h : cpR w τ a b k c τ1) (e : τ2 c = τ1 c) : cpR w τ a b k c τ2 := fun q t ht => by
  rw [e]
  exact h q t ht
theorem M_cp83 {τ : Mem} {a b : Nat} (ha : a < 17) (hb : b < 17) (hab : a ≠ b) : ∀ (d k n : Nat) (τ1 : Mem), k + d = 160 → d < n → (∀ c, c ≠ 12 → c ≠ 13 → τ1 c = τ c) → cpR 160 τ a b k 12 τ1 → cpR 160 τ a b k 13 τ1 →
    ∃ τ2, Mo_copy_b83 n (nI a) (nI b) (nI k) τ1 = some τ2 ∧ (∀ c, c ≠ 12 → c ≠ 13 → τ2 c = τ c) ∧ cpR 160 τ a b 160 12 τ2 ∧ cpR 160 τ a b 160 13 τ2 := by
  intro d
  induction d with
  | zero =>
    intro k n τ1 hk hn h1 h2 h3
    obtain ⟨n, rfl⟩ : ∃ m, n = m + 1 := ⟨n - 1, by omega⟩
    obtain rfl : k = 160 := by omega
    unfold Mo_copy_b83
    rw [if_pos (by decide)]
    exact ⟨τ1, rfl, h1, h2, h3⟩
  | succ d ih =>
    intro k n τ1 hk hn h1 h2 h3
    obtain ⟨n, rfl⟩ : ∃ m, n = m + 1 := ⟨n - 1, by omega⟩
    unfold Mo_copy_b83
    have ea : (160 : Int32) * nI a + nI k = nI (160 * a + k) := by rw [show (160 : Int32) = nI 160 from rfl, pk_mul, nI_add]
    have eb : (160 : Int32) * nI b + nI k = nI (160 * b + k) := by rw [show (160 : Int32) = nI 160 from rfl, pk_mul, nI_add]
    have pa : pmIn (nI (160 * a + k)) 2720 = true := pmIn_nI (by omega) (by omega)
    have pb : pmIn (nI (160 * b + k)) 2720 = true := pmIn_nI (by omega) (by omega)
    have n13 : ¬ (160 : Int32) ≤ nI k := nI_ge (a := k) (b := 160) (by omega) (by omega)
    rw [if_neg n13, ea, eb, if_pos pa, if_pos pb, if_pos pa, if_pos pb, nI_clamp (by omega), nI_clamp (by omega), nI_1]
    refine ih (k + 1) n _ (by omega) (by omega) (fun c q1 q2 => by rw [mrow_ne q2, mrow_ne q1]; exact h1 c q1 q2) ?_ ?_
    · exact cpR_cg (cpR_put hab (by omega) h2) (mrow_ne (by omega))
    · exact cpR_put hab (by omega) (cpR_cg h3 (mrow_ne (by omega)))
theorem M_cp50 {τ : Mem} {a b : Nat} (ha : a < 17) (hb : b < 17) (hab : a ≠ b) : ∃ τ2, Mo_copy_b50 FU (nI a) (nI b) 0 τ = some τ2 ∧ (∀ c, c ≠ 8 → c ≠ 12 → c ≠ 13 → τ2 c = τ c) ∧ cpR 3 τ a b 3 8 τ2 ∧ cpR 160 τ a b 160 12 τ2 ∧ cpR 160 τ a b 160 13 τ2 := by
  have st : ∀ (n k : Nat) (τ1 : Mem), k < 3 → Mo_copy_b50 (n + 1) (nI a) (nI b) (nI k) τ1 = Mo_copy_b50 n (nI a) (nI b) (nI (k + 1)) (mput τ1 8 (3 * b + k) (τ1 8 (3 * a + k))) := fun n k τ1 hk => by
    have ea : (3 : Int32) * nI a + nI k = nI (3 * a + k) := by rw [show (3 : Int32) = nI 3 from rfl, pk_mul, nI_add]
    have eb : (3 : Int32) * nI b + nI k = nI (3 * b + k) := by rw [show (3 : Int32) = nI 3 from rfl, pk_mul, nI_add]
    have pa : pmIn (nI (3 * a + k)) 51 = true := pmIn_nI (by omega) (by omega)
    have pb : pmIn (nI (3 * b + k)) 51 = true := pmIn_nI (by omega) (by omega)
    have n3 : ¬ (3 : Int32) ≤ nI k := nI_ge (a := k) (b := 3) (by omega) (by omega)
    rw [Mo_copy_b50, if_neg n3, ea, eb, if_pos pa, if_pos pb, nI_clamp (by omega), nI_clamp (by omega), nI_1]
  have c0 : cpR 3 τ a b 0 8 τ := fun q t ht => by rw [if_neg (fun z => by omega)]
  have c1 := cpR_put hab (by omega) c0
  have c2 := cpR_put hab (by omega) c1
  have c3 := cpR_put hab (by omega) c2
  rw [show Mo_copy_b50 FU (nI a) (nI b) 0 τ = Mo_copy_b50 (2096 + 1 + 1 + 1 + 1) (nI a) (nI b) (nI 0) τ from rfl, st _ 0 _ (by omega), st _ 1 _ (by omega), st _ 2 _ (by omega)]
  generalize hT : mput _ 8 (3 * b + 2) _ = T at c3 ⊢
  have f8 : ∀ c, c ≠ 8 → T c = τ c := fun c q => by rw [← hT, mrow_ne q, mrow_ne q, mrow_ne q]
  rw [Mo_copy_b50, if_pos (by decide)]
  obtain ⟨τ2, s1, s2, s3, s4⟩ := M_cp83 (τ := T) ha hb hab 160 0 2100 T (by omega) (by omega) (fun _ _ _ => rfl) (fun q t ht => by rw [if_neg (fun z => by omega)]) (fun q t ht => by rw [if_neg (fun z => by omega)])
  refine ⟨τ2, s1, fun c q1 q2 q3 => by rw [s2 c q2 q3, f8 c q1], cpR_cg c3 (s2 8 (by omega) (by omega)), fun q t ht => ?_, fun q t ht => ?_⟩
  · rw [s3 q t ht, f8 12 (by omega)]
  · rw [s4 q t ht, f8 13 (by omega)]
theorem M_copy {τ : Mem} {a b : Nat} (ha : a < 17) (hb : b < 17) (hab : a ≠ b) (h7 : τ 7 a = 0 ∨ τ 7 a = 1) (h10 : τ 10 a = 0 ∨ τ 10 a = 1) : ∃ τ1, Mo_copy (nI a) (nI b) τ = some τ1 ∧ CpM τ a b τ1 := by
  have pa : pmIn (nI a) 17 = true := pmIn_nI ha (by omega)
  have pb : pmIn (nI b) 17 = true := pmIn_nI hb (by omega)
  have bz : ∀ x : Int32, x = 0 ∨ x = 1 → (x == 0 || x == 1) = true := fun x h => by rcases h with rfl | rfl <;> decide
  unfold Mo_copy
  rw [nI_clamp (by omega), nI_clamp (by omega)]
  rw [if_pos pa, if_pos pb, if_pos (bz _ h7), if_pos pa, if_pos pb, if_pos pa, if_pos pb, if_pos (bz _ (by rw [mrow_ne (by omega), mrow_ne (by omega)]; exact h10)), if_pos pa, if_pos pb]
  generalize hT : mput _ 11 b _ = T
  obtain ⟨τ1, s1, s2, s3, s4, s5⟩ := M_cp50 (τ := T) ha hb hab
  have f : ∀ c, c ≠ 7 → c ≠ 9 → c ≠ 10 → c ≠ 11 → T c = τ c := fun c q1 q2 q3 q4 => by rw [← hT, mrow_ne q4, mrow_ne q3, mrow_ne q2, mrow_ne q1]
  have ne : ∀ (c x : Nat), x ≠ b → T c x = τ c x := fun c x hx => by rw [← hT, mput_ne (by omega), mput_ne (by omega), mput_ne (by omega), mput_ne (by omega)]
  have t7 : T 7 b = τ 7 a := by rw [← hT, mput_ne (by omega), mput_ne (by omega), mput_ne (by omega), mput_eq]
  have t9 : T 9 b = τ 9 a := by rw [← hT, mput_ne (by omega), mput_ne (by omega), mput_eq, mput_ne (by omega)]
  have t10 : T 10 b = τ 10 a := by rw [← hT, mput_ne (by omega), mput_eq, mput_ne (by omega), mput_ne (by omega)]
  have t11 : T 11 b = τ 11 a := by rw [← hT, mput_eq, mput_ne (by omega), mput_ne (by omega), mput_ne (by omega)]
  refine ⟨τ1, s1, fun c hc => by rw [s2 c (by omega) (by omega) (by omega), f c (by omega) (by omega) (by omega) (by omega)], ⟨?_, ?_, ?_, ?_, fun k hk => ?_, fun k hk => ⟨?_, ?_⟩⟩, fun q hq hqb => ⟨?_, ?_, ?_, ?_, fun k hk => ?_, fun k hk => ⟨?_, ?_⟩⟩⟩
  · rw [s2 7 (by omega) (by omega) (by omega), t7]
  · rw [s2 9 (by omega) (by omega) (by omega), t9]
  · rw [s2 10 (by omega) (by omega) (by omega), t10]
  · rw [s2 11 (by omega) (by omega) (by omega), t11]
  · rw [s3 b k hk, if_pos ⟨rfl, hk⟩, f 8 (by omega) (by omega) (by omega) (by omega)]
  · rw [s4 b k hk, if_pos ⟨rfl, hk⟩, f 12 (by omega) (by omega) (by omega) (by omega)]
  · rw [s5 b k hk, if_pos ⟨rfl, hk⟩, f 13 (by omega) (by omega) (by omega) (by omega)]
  · rw [s2 7 (by omega) (by omega) (by omega), ne 7 q hqb]
  · rw [s2 9 (by omega) (by omega) (by omega), ne 9 q hqb]
  · rw [s2 10 (by omega) (by omega) (by omega), ne 10 q hqb]
  · rw [s2 11 (by omega) (by omega) (by omega), ne 11 q hqb]
  · rw [s3 q k hk, if_neg (fun z => hqb z.1), f 8 (by omega) (by omega) (by omega) (by omega)]
  · rw [s4 q k hk, if_neg (fun z => hqb z.1), f 12 (by omega) (by omega) (by omega) (by omega)]
  · rw [s5 q k hk, if_neg (fun z => hqb z.1), f 13 (by omega) (by omega) (by omega) (by omega)]
