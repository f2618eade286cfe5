theorem rq_p {r : Nat} (hr : r < 2048) : Ps_personOf (nI r) = nI (r / 512) ∧ Mo_personOf (nI r) = nI (r / 512) := by
  have e : nI r >>> ((9 : Int32) &&& 31) = nI (r / 2 ^ 9) := pk_shrN (by omega) _ 9 (by decide)
  exact ⟨e, e⟩
theorem rq_t {r : Nat} (hr : r < 2048) : Ps_thingOf (nI r) = nI (r / 32 % 4) ∧ Mo_thingOf (nI r) = nI (r / 32 % 4) := by
  have e : (nI r >>> ((5 : Int32) &&& 31)) &&& 3 = nI (r / 32 % 4) := by
    rw [pk_shrN (by omega) _ 5 (by decide), pk_andN (by omega) 2 (by decide)]
  exact ⟨e, e⟩
theorem and1 (x : Int32) : x &&& 1 = 0 ∨ x &&& 1 = 1 := by
  obtain ⟨j, hj, e⟩ := pk_andE x (m := 1) 1 (by decide)
  rw [e]
  rcases (show j = 0 ∨ j = 1 by omega) with rfl | rfl
  · exact Or.inl rfl
  · exact Or.inr rfl
theorem in01 {x : Int32} (h : x = 0 ∨ x = 1) : x = -1 ∨ 0 ≤ x := by
  rcases h with rfl | rfl
  · exact Or.inr (by decide)
  · exact Or.inr (by decide)
theorem wi0 {σ τ : Mem} (h : RelW σ τ) {w : Nat} (hw : w < 4) : Mo_within 0 (nI w) τ = some (σ 5 w) := by
  obtain ⟨a1, a2, a3, -, -⟩ := h
  have e := mo_within (s := 0) (w := w) (τ := τ) (by omega) hw
  rw [show nI 0 = 0 from rfl] at e
  rw [e, a2 w hw]
  congr 1
  have x1 := (a1 0 (by omega) w hw).1
  rw [show (4 * 0 + w) = w by omega] at x1
  rw [show (4 * 0 + w) = w by omega, x1]
  obtain ⟨m, hm, em⟩ := (a1 0 (by omega) w hw).2
  have hr : ∀ g, g < 4 → (σ 4) g = nI ((fun g => (σ 4 g).toNatClampNeg) g) ∧ (fun g => (σ 4 g).toNatClampNeg) g < 16 := fun g hg => b4_n (a1 1 (by omega) g hg).2
  have hr2 : ∀ g, g < 4 → (fun q => τ 1 ((if 2 ≤ 0 then 12 else 4) + q)) g = nI ((fun g => (σ 4 g).toNatClampNeg) g) ∧ (fun g => (σ 4 g).toNatClampNeg) g < 16 := fun g hg => ⟨((a1 1 (by omega) g hg).1).trans (hr g hg).1, (hr g hg).2⟩
  rw [show σ (rowC 0) w = nI m from em, show σ 3 w = nI m from em, upA_n hr2 hm, upA_n hr hm]
theorem wi2 {σ τ : Mem} (h : RelW σ τ) {w : Nat} (hw : w < 4) : Mo_within 2 (nI w) τ = some (σ 9 w) := by
  obtain ⟨a1, a2, a3, -, -⟩ := h
  have e := mo_within (s := 2) (w := w) (τ := τ) (by omega) hw
  rw [show nI 2 = 2 from rfl] at e
  rw [e, a3 w hw]
  congr 1
  have x1 := (a1 2 (by omega) w hw).1
  rw [x1]
  obtain ⟨m, hm, em⟩ := (a1 2 (by omega) w hw).2
  have hr : ∀ g, g < 4 → (σ 8) g = nI ((fun g => (σ 8 g).toNatClampNeg) g) ∧ (fun g => (σ 8 g).toNatClampNeg) g < 16 := fun g hg => b4_n (a1 3 (by omega) g hg).2
  have hr2 : ∀ g, g < 4 → (fun q => τ 1 ((if 2 ≤ 2 then 12 else 4) + q)) g = nI ((fun g => (σ 8 g).toNatClampNeg) g) ∧ (fun g => (σ 8 g).toNatClampNeg) g < 16 := fun g hg => ⟨((a1 3 (by omega) g hg).1).trans (hr g hg).1, (hr g hg).2⟩
  rw [show σ (rowC 2) w = nI m from em, show σ 7 w = nI m from em, upA_n hr2 hm, upA_n hr hm]
/-- an atom of the class and the reference's code for it; ty: its type is TRUTH -/
def AtEq (kx wx km wm : Int32) (ty : Bool) : Prop :=
  (∃ d, d < 10 ∧ kx = nI (48 + d) ∧ wx = nI d ∧ km = 0 ∧ wm = nI d ∧ ty = false) ∨
  (km = kx ∧ ((kx = 84 ∧ wx = 1 ∧ ty = true) ∨ (kx = 70 ∧ wx = 0 ∧ ty = true) ∨ (kx = 110 ∧ ty = false) ∨ (kx = 108 ∧ ty = false) ∨ (kx = 98 ∧ ty = true) ∨ (kx = 99 ∧ ty = true) ∨ (kx = 111 ∧ ty = true))) ∨
  (km = kx ∧ wm = wx ∧ ∃ d, d < 4 ∧ wx = nI d ∧ ((kx = 103 ∧ ty = true) ∨ (kx = 102 ∧ ty = true) ∨ (kx = 104 ∧ ty = true) ∨ (kx = 109 ∧ ty = false)))
theorem AtEq_at {kx wx km wm : Int32} {ty : Bool} (h : AtEq kx wx km wm ty) : isAt kx ∧ isAtM km := by
  unfold isAt isAtM
  rcases h with ⟨d, hd, rfl, -, rfl, -⟩ | ⟨rfl, h⟩ | ⟨rfl, -, d, hd, -, h⟩
  · refine ⟨?_, by decide⟩
    rcases (show d = 0 ∨ d = 1 ∨ d = 2 ∨ d = 3 ∨ d = 4 ∨ d = 5 ∨ d = 6 ∨ d = 7 ∨ d = 8 ∨ d = 9 by omega) with rfl | rfl | rfl | rfl | rfl | rfl | rfl | rfl | rfl | rfl <;> decide
  · rcases h with ⟨rfl, -⟩ | ⟨rfl, -⟩ | ⟨rfl, -⟩ | ⟨rfl, -⟩ | ⟨rfl, -⟩ | ⟨rfl, -⟩ | ⟨rfl, -⟩ <;> exact ⟨by decide, by decide⟩
  · rcases h with ⟨rfl, -⟩ | ⟨rfl, -⟩ | ⟨rfl, -⟩ | ⟨rfl, -⟩ <;> exact ⟨by decide, by decide⟩
theorem mk_c {x : Int32} (h1 : -1 ≤ x) (h2 : ¬ x < 0 ∨ ¬ x = -1) : 0 ≤ x := by
  rw [Int32.le_iff_toInt_le, tim1] at h1
  rw [Int32.le_iff_toInt_le, ti0]
  rcases h2 with h2 | h2
  · rw [Int32.lt_iff_toInt_lt, ti0] at h2
    omega
  · have : x.toInt ≠ -1 := fun z => h2 (Int32.toInt_inj.mp (z.trans tim1.symm))
    omega
theorem atV {kx wx km wm : Int32} {ty : Bool} (h : AtEq kx wx km wm ty) {σ τ : Mem} (hw : RelW σ τ) {r : Nat} (hr : r < 2048) : ∃ v, Wo_valueOf kx wx (nI r) σ = some v ∧ Mo_valueOf km wm (nI r) τ = some v ∧ (v = -1 ∨ 0 ≤ v) ∧ (ty = true → v = 0 ∨ v = 1) := by
  have pp := rq_p hr
  have tt := rq_t hr
  have hp : r / 512 < 4 := by omega
  have ht : r / 32 % 4 < 4 := by omega
  rcases h with ⟨d, hd, rfl, rfl, rfl, rfl, rfl⟩ | ⟨rfl, h⟩ | ⟨rfl, rfl, d, hd, rfl, h⟩
  · refine ⟨nI d, ?_, rfl, Or.inr (nI_pos' (by omega)), fun q => by cases q⟩
    rcases (show d = 0 ∨ d = 1 ∨ d = 2 ∨ d = 3 ∨ d = 4 ∨ d = 5 ∨ d = 6 ∨ d = 7 ∨ d = 8 ∨ d = 9 by omega) with rfl | rfl | rfl | rfl | rfl | rfl | rfl | rfl | rfl | rfl <;> rfl
  · rcases h with ⟨rfl, rfl, rfl⟩ | ⟨rfl, rfl, rfl⟩ | ⟨rfl, rfl⟩ | ⟨rfl, rfl⟩ | ⟨rfl, rfl⟩ | ⟨rfl, rfl⟩ | ⟨rfl, rfl⟩
    · exact ⟨1, rfl, rfl, Or.inr (by decide), fun _ => Or.inr rfl⟩
    · exact ⟨0, rfl, rfl, Or.inr (by decide), fun _ => Or.inl rfl⟩
    · refine ⟨(nI r >>> ((2 : Int32) &&& 31)) &&& 7, rfl, rfl, ?_, fun q => by cases q⟩
      obtain ⟨j, hj, e⟩ := pk_andE (nI r >>> ((2 : Int32) &&& 31)) (m := 7) 3 (by decide)
      rw [e]
      exact Or.inr (nI_pos' (by omega))
    · have e1 : Wo_valueOf 108 wx (nI r) σ = (if pmIn (Ps_thingOf (nI r)) 4 = true then some (σ 11 (Ps_thingOf (nI r)).toNatClampNeg) else none) := rfl
      have e2 : Mo_valueOf 108 wm (nI r) τ = (if pmIn (Mo_thingOf (nI r)) 4 = true then some (τ 3 (Mo_thingOf (nI r)).toNatClampNeg) else none) := rfl
      have a5 := (hw.2.2.2.2 _ ht).1
      rw [e1, e2, tt.1, tt.2, if_pos (pmIn_nI ht (by omega)), if_pos (pmIn_nI ht (by omega)), nI_clamp (by omega), a5.1]
      exact ⟨_, rfl, rfl, Or.inr a5.2.1, fun q => by cases q⟩
    · exact ⟨_, rfl, rfl, in01 (and1 _), fun _ => and1 _⟩
    · exact ⟨_, rfl, rfl, in01 (and1 _), fun _ => and1 _⟩
    · have e1 : Wo_valueOf 111 wx (nI r) σ = (if pmIn (Ps_thingOf (nI r)) 4 = true then (if ¬ (σ 12 (Ps_thingOf (nI r)).toNatClampNeg) = (Ps_personOf (nI r)) then some 0 else some 1) else none) := rfl
      have e2 : Mo_valueOf 111 wm (nI r) τ = (if pmIn (Mo_thingOf (nI r)) 4 = true then (if ¬ (τ 4 (Mo_thingOf (nI r)).toNatClampNeg) = (Mo_personOf (nI r)) then some 0 else some 1) else none) := rfl
      have a5 := (hw.2.2.2.2 _ ht).2
      rw [e1, e2, tt.1, tt.2, pp.1, pp.2, if_pos (pmIn_nI ht (by omega)), if_pos (pmIn_nI ht (by omega)), nI_clamp (by omega), a5.1]
      by_cases e : ¬ σ 12 (r / 32 % 4) = nI (r / 512)
      · rw [if_pos e]
        exact ⟨0, rfl, rfl, Or.inr (by decide), fun _ => Or.inl rfl⟩
      · rw [if_neg e]
        exact ⟨1, rfl, rfl, Or.inr (by decide), fun _ => Or.inr rfl⟩
  · rcases h with ⟨rfl, rfl⟩ | ⟨rfl, rfl⟩ | ⟨rfl, rfl⟩ | ⟨rfl, rfl⟩
    · have e1 : Wo_valueOf 103 (nI d) (nI r) σ = (Ne_holdersOf 2 (Ps_personOf (nI r)) σ).bind fun q107 => some ((q107 >>> (nI d &&& 31)) &&& 1) := rfl
      have e2 : Mo_valueOf 103 (nI d) (nI r) τ = (Mo_within 0 (Mo_personOf (nI r)) τ).bind fun q221 => some ((q221 >>> (nI d &&& 31)) &&& 1) := rfl
      rw [e1, e2, pp.1, pp.2, wi0 hw hp]
      unfold Ne_holdersOf
      rw [if_pos (pmIn_nI hp (by omega)), nI_clamp (by omega)]
      exact ⟨_, rfl, rfl, in01 (and1 _), fun _ => and1 _⟩
    · have e1 : Wo_valueOf 102 (nI d) (nI r) σ = (Ne_holdersOf 6 (Ps_thingOf (nI r)) σ).bind fun q107 => some ((q107 >>> (nI d &&& 31)) &&& 1) := rfl
      have e2 : Mo_valueOf 102 (nI d) (nI r) τ = (Mo_within 2 (Mo_thingOf (nI r)) τ).bind fun q221 => some ((q221 >>> (nI d &&& 31)) &&& 1) := rfl
      rw [e1, e2, tt.1, tt.2, wi2 hw ht]
      unfold Ne_holdersOf
      rw [if_pos (pmIn_nI ht (by omega)), nI_clamp (by omega)]
      exact ⟨_, rfl, rfl, in01 (and1 _), fun _ => and1 _⟩
    · have e1 : Wo_valueOf 104 (nI d) (nI r) σ = (if pmIn (((Ps_personOf (nI r)) * 4) + nI d) 16 = true then (if ¬ (σ 10 (((Ps_personOf (nI r)) * 4) + nI d).toNatClampNeg) = (-1) then some 1 else some 0) else none) := rfl
      have e2 : Mo_valueOf 104 (nI d) (nI r) τ = (if pmIn ((4 * (Mo_personOf (nI r))) + nI d) 16 = true then (if (τ 2 ((4 * (Mo_personOf (nI r))) + nI d).toNatClampNeg) < 0 then some 0 else some 1) else none) := rfl
      have ei : nI (r / 512) * (4 : Int32) + nI d = nI (4 * (r / 512) + d) := by
        rw [show (4 : Int32) = nI 4 from rfl, pk_mul, nI_add, Nat.mul_comm]
      have a4 := hw.2.2.2.1 (4 * (r / 512) + d) (by omega)
      have pin : pmIn (nI (4 * (r / 512) + d)) 16 = true := pmIn_nI (by omega) (by omega)
      rw [e1, e2, pp.1, pp.2, ei, mo_ix, if_pos pin, if_pos pin, nI_clamp (by omega), a4.1]
      by_cases e : σ 10 (4 * (r / 512) + d) = -1
      · rw [e]
        exact ⟨0, rfl, rfl, Or.inr (by decide), fun _ => Or.inl rfl⟩
      · have z := mk_c a4.2.1 (Or.inr e)
        have z2 : ¬ σ 10 (4 * (r / 512) + d) < 0 := by
          rw [Int32.lt_iff_toInt_lt]
          rw [Int32.le_iff_toInt_le] at z
          omega
        rw [if_pos e, if_neg z2]
        exact ⟨1, rfl, rfl, Or.inr (by decide), fun _ => Or.inr rfl⟩
    · have e1 : Wo_valueOf 109 (nI d) (nI r) σ = (if pmIn (((Ps_personOf (nI r)) * 4) + nI d) 16 = true then some (σ 10 (((Ps_personOf (nI r)) * 4) + nI d).toNatClampNeg) else none) := rfl
      have e2 : Mo_valueOf 109 (nI d) (nI r) τ = (if pmIn ((4 * (Mo_personOf (nI r))) + nI d) 16 = true then some (τ 2 ((4 * (Mo_personOf (nI r))) + nI d).toNatClampNeg) else none) := rfl
      have ei : nI (r / 512) * (4 : Int32) + nI d = nI (4 * (r / 512) + d) := by
        rw [show (4 : Int32) = nI 4 from rfl, pk_mul, nI_add, Nat.mul_comm]
      have a4 := hw.2.2.2.1 (4 * (r / 512) + d) (by omega)
      have pin : pmIn (nI (4 * (r / 512) + d)) 16 = true := pmIn_nI (by omega) (by omega)
      rw [e1, e2, pp.1, pp.2, ei, mo_ix, if_pos pin, if_pos pin, nI_clamp (by omega), a4.1]
      refine ⟨_, rfl, rfl, ?_, fun q => by cases q⟩
      by_cases e : σ 10 (4 * (r / 512) + d) = -1
      · exact Or.inl e
      · exact Or.inr (mk_c a4.2.1 (Or.inr e))
theorem val_m {τw τ : Mem} (h : WldM τw τ) (x y z : Int32) : Mo_valueOf x y z τ = Mo_valueOf x y z τw := by
  have b36 : ∀ (k k2 : Int32 → Int32 → Int32 → Mem → Option Int32), (∀ a b c, k a b c τ = k2 a b c τw) → ∀ n a b c d, Mo_within_b36 k n a b c d τ = Mo_within_b36 k2 n a b c d τw := by
    intro k k2 hk n
    induction n with
    | zero => intro a b c d; rfl
    | succ n ih =>
      intro a b c d
      rw [Mo_within_b36, Mo_within_b36, hk, ih, ih, h 1 (by omega) (by omega)]
  have b27 : ∀ n a b c, Mo_within_b27 n a b c τ = Mo_within_b27 n a b c τw := by
    intro n
    induction n with
    | zero => intro a b c; rfl
    | succ n ih =>
      intro a b c
      rw [Mo_within_b27, Mo_within_b27, b36 _ _ ih]
  unfold Mo_valueOf Mo_within
  rw [h 1 (by omega) (by omega), h 2 (by omega) (by omega), h 3 (by omega) (by omega), h 4 (by omega) (by omega)]
  simp only [b27]
theorem Seg_at {kx wx km wm : Nat → Int32} {i j : Nat} {ty : Bool} (h : AtEq (kx i) (wx i) (km j) (wm j) ty) : SegX kx wx i (i + 1) 1 (dAt (kx i) (wx i)) ∧ SegM km wm j (j + 1) 1 (dAt (kx i) (wx i)) := by
  have h0 := AtEq_at h
  refine ⟨SegX_at h0.1 (fun σw r hw hr => ?_), SegM_at h0.2 (fun σw τw τ r hw hW hr => ?_)⟩
  · obtain ⟨τ, hw⟩ := hw
    obtain ⟨v, v1, -⟩ := atV h hw hr
    exact ⟨v, v1⟩
  · obtain ⟨v, v1, v2, v3, -⟩ := atV h hw hr
    exact ⟨v, v1, by rw [val_m hW]; exact v2, v3⟩
/-- truths are 0 or 1 -/
def Tr01 (e : Mem → Nat → Option Int32) : Prop := ∀ σw r, OkW σw → r < 2048 → ∀ v, e σw r = some v → v = 0 ∨ v = 1
theorem Tr_at {kx wx km wm : Int32} (h : AtEq kx wx km wm true) : Tr01 (dAt kx wx) := by
  intro σw r hw hr v hv
  obtain ⟨τ, hw⟩ := hw
  obtain ⟨z, z1, -, -, z4⟩ := atV h hw hr
  unfold dAt at hv
  rw [z1] at hv
  dsimp only at hv
  split at hv
  · cases hv
  · cases hv
    exact z4 rfl
