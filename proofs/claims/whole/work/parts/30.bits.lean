/-- sets of four, as numbers below 16 -/
def uS (r : Nat → Nat) (m g : Nat) : Nat := if m.testBit g = true then m ||| r g else m
def uR (r : Nat → Nat) (m : Nat) : Nat := uS r (uS r (uS r (uS r m 0) 1) 2) 3
def uA (r : Nat → Nat) (m : Nat) : Nat := uR r (uR r (uR r (uR r m)))
theorem all2 {n m : Nat} {f : Nat → Nat → Bool} (h : (List.range n).all (fun a => (List.range m).all (f a)) = true) {a b : Nat} (ha : a < n) (hb : b < m) : f a b = true :=
  List.all_eq_true.mp (List.all_eq_true.mp h a (List.mem_range.mpr ha)) b (List.mem_range.mpr hb)
theorem n_or16 (a : Nat) (ha : a < 16) (b : Nat) (hb : b < 16) : a ||| b < 16 := Nat.or_lt_two_pow (n := 4) ha hb
def pc4 (a : Nat) : Nat := a % 2 + a / 2 % 2 + a / 4 % 2 + a / 8 % 2
theorem n_pcb : (List.range 16).all (fun a => (List.range 16).all (fun b => !(Nat.beq (a ||| b) b) || Nat.beq a b || Nat.blt (pc4 a) (pc4 b))) = true := by decide +kernel
theorem n_pc (a : Nat) (ha : a < 16) (b : Nat) (hb : b < 16) (h : a ||| b = b) (hne : a ≠ b) : pc4 a < pc4 b := by
  have := all2 n_pcb ha hb
  rw [h, Nat.beq_refl] at this
  rw [Bool.or_eq_true, Bool.not_true, Bool.false_or] at this
  rcases this with h1 | h1
  · exact absurd (Nat.eq_of_beq_eq_true h1) hne
  · exact Nat.blt_eq.mp h1
theorem pc4_le (a : Nat) : pc4 a ≤ 4 := by
  unfold pc4
  omega
theorem pc4_0b : (List.range 16).all (fun a => !(Nat.beq (pc4 a) 0) || Nat.beq a 0) = true := by decide +kernel
theorem pc4_0 {a : Nat} (ha : a < 16) (h : pc4 a = 0) : a = 0 := by
  have := List.all_eq_true.mp pc4_0b a (List.mem_range.mpr ha)
  rw [h, Nat.beq_refl, Bool.not_true, Bool.false_or] at this
  exact Nat.eq_of_beq_eq_true this
theorem n_bit (a : Nat) (ha : a < 16) (b : Nat) (_ : b < 16) : (a ||| b = b) ↔ ∀ g, g < 4 → a.testBit g = true → b.testBit g = true := by
  constructor
  · intro h g _ hg
    rw [← h, Nat.testBit_or, hg]
    rfl
  · intro h
    refine Nat.eq_of_testBit_eq fun g => ?_
    rw [Nat.testBit_or]
    by_cases hg : g < 4
    · cases hb : a.testBit g with
      | false => rfl
      | true => rw [h g hg hb]; rfl
    · rw [Nat.testBit_lt_two_pow (Nat.lt_of_lt_of_le ha (show 16 ≤ 2 ^ g from Nat.pow_le_pow_right (n := 2) (by omega) (show 4 ≤ g by omega)))]
      rfl
theorem uS_lt {r : Nat → Nat} (hr : ∀ g, g < 4 → r g < 16) {m g : Nat} (hm : m < 16) (hg : g < 4) : uS r m g < 16 := by
  unfold uS
  split
  · exact n_or16 _ hm _ (hr g hg)
  · exact hm
theorem uR_lt {r : Nat → Nat} (hr : ∀ g, g < 4 → r g < 16) {m : Nat} (hm : m < 16) : uR r m < 16 := uS_lt hr (uS_lt hr (uS_lt hr (uS_lt hr hm (by omega)) (by omega)) (by omega)) (by omega)
theorem uA_lt {r : Nat → Nat} (hr : ∀ g, g < 4 → r g < 16) {m : Nat} (hm : m < 16) : uA r m < 16 := uR_lt hr (uR_lt hr (uR_lt hr (uR_lt hr hm)))
def sub4 (a b : Nat) : Prop := a ||| b = b
theorem sub_tr {a b c : Nat} (h1 : sub4 a b) (h2 : sub4 b c) : sub4 a c := by
  unfold sub4 at *
  rw [← h2, ← Nat.or_assoc, h1]
theorem sub_rf (a : Nat) : sub4 a a := Nat.or_self a
theorem sub_an {a b : Nat} (h1 : sub4 a b) (h2 : sub4 b a) : a = b := by
  unfold sub4 at *
  rw [← h2, Nat.or_comm, h1]
theorem uS_up {r : Nat → Nat} (m g : Nat) : sub4 m (uS r m g) := by
  unfold uS
  split
  · unfold sub4
    rw [← Nat.or_assoc, Nat.or_self]
  · exact sub_rf m
theorem uR_up {r : Nat → Nat} (m : Nat) : sub4 m (uR r m) := sub_tr (uS_up m 0) (sub_tr (uS_up _ 1) (sub_tr (uS_up _ 2) (uS_up _ 3)))
theorem uA_up {r : Nat → Nat} (m : Nat) : sub4 m (uA r m) := sub_tr (uR_up m) (sub_tr (uR_up _) (sub_tr (uR_up _) (uR_up _)))
/-- closed under the rows -/
def cl4 (r : Nat → Nat) (m : Nat) : Prop := ∀ g, g < 4 → m.testBit g = true → sub4 (r g) m
theorem uS_fix {r : Nat → Nat} {m g : Nat} (h : uS r m g = m) (hb : m.testBit g = true) : sub4 (r g) m := by
  unfold uS at h
  rw [if_pos hb] at h
  unfold sub4
  rw [Nat.or_comm]
  exact h
theorem uR_fix {r : Nat → Nat} {m : Nat} (h : uR r m = m) : cl4 r m := by
  have h0 : uS r m 0 = m := by
    refine sub_an ?_ (uS_up m 0)
    have := sub_tr (uS_up (r := r) (uS r m 0) 1) (sub_tr (uS_up (r := r) _ 2) (uS_up (r := r) _ 3))
    unfold uR at h
    rw [h] at this
    exact this
  have h1 : uS r m 1 = m := by
    refine sub_an ?_ (uS_up m 1)
    have := sub_tr (uS_up (r := r) (uS r (uS r m 0) 1) 2) (uS_up (r := r) _ 3)
    unfold uR at h
    rw [h, h0] at this
    exact this
  have h2 : uS r m 2 = m := by
    refine sub_an ?_ (uS_up m 2)
    have := uS_up (r := r) (uS r (uS r (uS r m 0) 1) 2) 3
    unfold uR at h
    rw [h, h0, h1] at this
    exact this
  have h3 : uS r m 3 = m := by
    unfold uR at h
    rw [h0, h1, h2] at h
    exact h
  intro g hg hb
  rcases (show g = 0 ∨ g = 1 ∨ g = 2 ∨ g = 3 by omega) with rfl | rfl | rfl | rfl
  · exact uS_fix h0 hb
  · exact uS_fix h1 hb
  · exact uS_fix h2 hb
  · exact uS_fix h3 hb
theorem uR_of {r : Nat → Nat} {m : Nat} (h : uR r m = m) : uA r m = m := by
  unfold uA
  rw [h, h, h, h]
theorem uA_cl {r : Nat → Nat} (hr : ∀ g, g < 4 → r g < 16) {m : Nat} (hm : m < 16) : cl4 r (uA r m) := by
  have l1 := uR_lt hr hm
  have l2 := uR_lt hr l1
  have l3 := uR_lt hr l2
  have l4 := uR_lt hr l3
  by_cases e1 : m = uR r m
  · rw [uR_of e1.symm]
    exact uR_fix e1.symm
  · have p1 := n_pc _ hm _ l1 (uR_up m) e1
    by_cases e2 : uR r m = uR r (uR r m)
    · have : uA r m = uR r m := by
        unfold uA
        rw [← e2, ← e2, ← e2]
      rw [this]
      exact uR_fix e2.symm
    · have p2 := n_pc _ l1 _ l2 (uR_up _) e2
      by_cases e3 : uR r (uR r m) = uR r (uR r (uR r m))
      · have : uA r m = uR r (uR r m) := by
          unfold uA
          rw [← e3, ← e3]
        rw [this]
        exact uR_fix e3.symm
      · have p3 := n_pc _ l2 _ l3 (uR_up _) e3
        by_cases e4 : uR r (uR r (uR r m)) = uR r (uR r (uR r (uR r m)))
        · have : uA r m = uR r (uR r (uR r m)) := by
            unfold uA
            rw [← e4]
          rw [this]
          exact uR_fix e4.symm
        · have p4 := n_pc _ l3 _ l4 (uR_up _) e4
          have p5 := pc4_le (uR r (uR r (uR r (uR r m))))
          have h0 : m = 0 := pc4_0 hm (by omega)
          subst h0
          exact absurd (by simp [uR, uS]) e1
theorem uS_min {r : Nat → Nat} {m c g : Nat} (hg : g < 4) (hc : cl4 r c) (hm : m < 16) (hc16 : c < 16) (h : sub4 m c) : sub4 (uS r m g) c := by
  unfold uS
  split
  · rename_i hb
    have h1 := hc g hg ((n_bit m hm c hc16).mp h g hg hb)
    unfold sub4 at *
    rw [Nat.or_assoc, h1, h]
  · exact h
theorem uR_min {r : Nat → Nat} (hr : ∀ g, g < 4 → r g < 16) {m c : Nat} (hc : cl4 r c) (hm : m < 16) (hc16 : c < 16) (h : sub4 m c) : sub4 (uR r m) c :=
  uS_min (by omega) hc (uS_lt hr (uS_lt hr (uS_lt hr hm (by omega)) (by omega)) (by omega)) hc16 (uS_min (by omega) hc (uS_lt hr (uS_lt hr hm (by omega)) (by omega)) hc16 (uS_min (by omega) hc (uS_lt hr hm (by omega)) hc16 (uS_min (by omega) hc hm hc16 h)))
theorem uA_min {r : Nat → Nat} (hr : ∀ g, g < 4 → r g < 16) {m c : Nat} (hc : cl4 r c) (hm : m < 16) (hc16 : c < 16) (h : sub4 m c) : sub4 (uA r m) c :=
  uR_min hr hc (uR_lt hr (uR_lt hr (uR_lt hr hm))) hc16 (uR_min hr hc (uR_lt hr (uR_lt hr hm)) hc16 (uR_min hr hc (uR_lt hr hm) hc16 (uR_min hr hc hm hc16 h)))
theorem n_one (g : Nat) (hg : g < 4) (b : Nat) (_ : b < 4) : 1 <<< g < 16 ∧ ((1 <<< g).testBit b = true ↔ b = g) := by
  refine ⟨?_, ?_⟩
  · rw [Nat.one_shiftLeft]
    exact Nat.pow_lt_pow_right (a := 2) (by omega) hg
  · rw [Nat.one_shiftLeft, Nat.testBit_two_pow]
    simp only [decide_eq_true_eq]
    omega
theorem n_orbit (a : Nat) (_ : a < 16) (b : Nat) (_ : b < 16) (g : Nat) (_ : g < 4) : (a ||| b).testBit g = true ↔ (a.testBit g = true ∨ b.testBit g = true) := by
  rw [Nat.testBit_or, Bool.or_eq_true]
/-- a link from who to into would close a ring -/
theorem uA_ring {r : Nat → Nat} (hr : ∀ g, g < 4 → r g < 16) {w t : Nat} (hw : w < 4) (ht : t < 4) : (uA r (1 <<< t)).testBit w = true ↔ (w = t ∨ (uA r (r t)).testBit w = true) := by
  have l1 := (n_one t ht 0 (by omega)).1
  have lt := hr t ht
  have c1 := uA_cl hr l1
  have c2 := uA_cl hr lt
  have a1 := uA_lt hr l1
  have a2 := uA_lt hr lt
  have bt : (uA r (1 <<< t)).testBit t = true := (n_bit _ l1 _ a1).mp (uA_up _) t ht ((n_one t ht t ht).2.mpr rfl)
  constructor
  · intro h
    by_cases e : w = t
    · exact Or.inl e
    · right
      have ho : (1 <<< t) ||| uA r (r t) < 16 := n_or16 _ l1 _ a2
      have hd : cl4 r ((1 <<< t) ||| uA r (r t)) := by
        intro g hg hb
        rcases (n_orbit _ l1 _ a2 g hg).mp hb with hb | hb
        · have : g = t := (n_one t ht g hg).2.mp hb
          subst this
          refine sub_tr (uA_up (r := r) (r g)) ?_
          unfold sub4
          rw [Nat.or_comm, Nat.or_assoc, Nat.or_self]
        · refine sub_tr (c2 g hg hb) ?_
          unfold sub4
          rw [Nat.or_comm, Nat.or_assoc, Nat.or_self]
      have hs : sub4 (1 <<< t) ((1 <<< t) ||| uA r (r t)) := by
        unfold sub4
        rw [← Nat.or_assoc, Nat.or_self]
      have := (n_bit _ a1 _ ho).mp (uA_min hr hd l1 ho hs) w hw h
      rcases (n_orbit _ l1 _ a2 w hw).mp this with hb | hb
      · exact absurd ((n_one t ht w hw).2.mp hb) e
      · exact hb
  · rintro (rfl | h)
    · exact bt
    · exact (n_bit _ a2 _ a1).mp (uA_min hr c1 lt a1 (c1 t ht bt)) w hw h
