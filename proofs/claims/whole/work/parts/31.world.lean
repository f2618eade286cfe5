theorem fBb : (List.range 16).all (fun m => (List.range 4).all (fun g => decide ((nI m >>> (nI g &&& 31)) &&& 1 = 1) == m.testBit g)) = true := by decide +kernel
theorem fB {m g : Nat} (hm : m < 16) (hg : g < 4) : (nI m >>> (nI g &&& 31)) &&& 1 = 1 ↔ m.testBit g = true := by
  have := all2 fBb hm hg
  rw [beq_iff_eq] at this
  rw [← this, decide_eq_true_eq]
theorem fOb : (List.range 16).all (fun a => (List.range 16).all (fun b => decide (nI a ||| nI b = nI (a ||| b)))) = true := by decide +kernel
theorem fO {a b : Nat} (ha : a < 16) (hb : b < 16) : nI a ||| nI b = nI (a ||| b) := of_decide_eq_true (all2 fOb ha hb)
theorem f1b : (List.range 4).all (fun g => decide ((1 : Int32) <<< (nI g &&& 31) = nI (1 <<< g))) = true := by decide +kernel
theorem f1 {g : Nat} (hg : g < 4) : (1 : Int32) <<< (nI g &&& 31) = nI (1 <<< g) := of_decide_eq_true (List.all_eq_true.mp f1b g (List.mem_range.mpr hg))
theorem fNb : (List.range 16).all (fun m => (List.range 4).all (fun g => decide (nI m &&& (((1 : Int32) <<< (nI g &&& 31)) ^^^ (-1 : Int32)) = nI (m &&& (15 ^^^ (1 <<< g)))))) = true := by decide +kernel
theorem fN {m g : Nat} (hm : m < 16) (hg : g < 4) : nI m &&& (((1 : Int32) <<< (nI g &&& 31)) ^^^ (-1 : Int32)) = nI (m &&& (15 ^^^ (1 <<< g))) := of_decide_eq_true (all2 fNb hm hg)
theorem pmIn_nI {g N : Nat} (h : g < N) (hN : N < 2 ^ 31) : pmIn (nI g) N = true := by
  unfold pmIn
  rw [nI_clamp (by omega)]
  simp only [Bool.and_eq_true, Bool.not_eq_true', decide_eq_false_iff_not, Nat.blt_eq]
  exact ⟨nI_pos (by omega), h⟩
def upS (row : Nat → Int32) (x : Int32) (g : Nat) : Int32 := if (x >>> (nI g &&& 31)) &&& 1 = 1 then x ||| row g else x
def upR (row : Nat → Int32) (x : Int32) : Int32 := upS row (upS row (upS row (upS row x 0) 1) 2) 3
def upA (row : Nat → Int32) (x : Int32) : Int32 := upR row (upR row (upR row (upR row x)))
theorem upS_n {row : Nat → Int32} {r : Nat → Nat} (h : ∀ g, g < 4 → row g = nI (r g) ∧ r g < 16) {m g : Nat} (hm : m < 16) (hg : g < 4) : upS row (nI m) g = nI (uS r m g) := by
  unfold upS uS
  by_cases hb : m.testBit g = true
  · rw [if_pos hb, if_pos ((fB hm hg).mpr hb), (h g hg).1, fO hm (h g hg).2]
  · rw [if_neg hb, if_neg (fun q => hb ((fB hm hg).mp q))]
theorem upR_n {row : Nat → Int32} {r : Nat → Nat} (h : ∀ g, g < 4 → row g = nI (r g) ∧ r g < 16) {m : Nat} (hm : m < 16) : upR row (nI m) = nI (uR r m) := by
  have hr : ∀ g, g < 4 → r g < 16 := fun g hg => (h g hg).2
  unfold upR uR
  rw [upS_n h hm (by omega), upS_n h (uS_lt hr hm (by omega)) (by omega), upS_n h (uS_lt hr (uS_lt hr hm (by omega)) (by omega)) (by omega), upS_n h (uS_lt hr (uS_lt hr (uS_lt hr hm (by omega)) (by omega)) (by omega)) (by omega)]
theorem upA_n {row : Nat → Int32} {r : Nat → Nat} (h : ∀ g, g < 4 → row g = nI (r g) ∧ r g < 16) {m : Nat} (hm : m < 16) : upA row (nI m) = nI (uA r m) := by
  have hr : ∀ g, g < 4 → r g < 16 := fun g hg => (h g hg).2
  unfold upA uA
  rw [upR_n h hm, upR_n h (uR_lt hr hm), upR_n h (uR_lt hr (uR_lt hr hm)), upR_n h (uR_lt hr (uR_lt hr (uR_lt hr hm)))]
theorem hasBit_0 {x y : Int32} : Ps_hasBit x y = 0 ↔ ¬ (x >>> (y &&& 31)) &&& 1 = 1 := by
  unfold Ps_hasBit
  by_cases h : (x >>> (y &&& 31)) &&& 1 = 1
  · rw [if_neg (fun q => q h)]
    exact ⟨fun q => absurd q (by decide), fun q => absurd h q⟩
  · rw [if_pos h]
    exact ⟨fun _ => h, fun _ => rfl⟩
theorem i4 {g : Nat} (hg : g < 4) : ¬ (4 : Int32) ≤ nI g := nI_ge (a := g) (b := 4) hg (by omega)
theorem ne_b12 {k : Nat → Int32 → Int32 → Mem → Option Int32} {n v0 : Nat} {x v3 : Int32} {σ : Mem} {g : Nat} (hg : g < 4) : Ne_upward_b12 k (n + 1) v0 x v3 (nI g) σ = Ne_upward_b12 k n v0 (upS (σ (v0 + 2)) x g) v3 (nI (g + 1)) σ := by
  rw [Ne_upward_b12, if_neg (i4 hg), nI_1]
  unfold upS
  by_cases hb : (x >>> (nI g &&& 31)) &&& 1 = 1
  · rw [if_neg (fun q => hasBit_0.mp q hb), if_pos (pmIn_nI hg (by omega)), if_pos hb, nI_clamp (by omega)]
  · rw [if_pos (hasBit_0.mpr hb), if_neg hb, Int32.or_zero]
theorem ne_rd {k : Nat → Int32 → Int32 → Mem → Option Int32} {v0 : Nat} {x v3 : Int32} {σ : Mem} : Ne_upward_b12 k FU v0 x v3 0 σ = k v0 (upR (σ (v0 + 2)) x) (v3 + 1) σ := by
  show Ne_upward_b12 k (2095 + 1 + 1 + 1 + 1 + 1) v0 x v3 (nI 0) σ = _
  rw [ne_b12 (by omega), ne_b12 (by omega), ne_b12 (by omega), ne_b12 (by omega), Ne_upward_b12, if_pos (by decide)]
  rfl
theorem ne_b4 {n v0 : Nat} {x : Int32} {σ : Mem} {g : Nat} (hg : g < 4) : Ne_upward_b4 (n + 1) v0 x (nI g) σ = Ne_upward_b4 n v0 (upR (σ (v0 + 2)) x) (nI (g + 1)) σ := by
  rw [Ne_upward_b4, if_neg (i4 hg), ne_rd, nI_1]
theorem ne_up {v0 : Nat} {x : Int32} {σ : Mem} : Ne_upward v0 x σ = some (upA (σ (v0 + 2)) x) := by
  unfold Ne_upward
  show Ne_upward_b4 (2095 + 1 + 1 + 1 + 1 + 1) v0 x (nI 0) σ = _
  rw [ne_b4 (by omega), ne_b4 (by omega), ne_b4 (by omega), ne_b4 (by omega), Ne_upward_b4, if_pos (by decide)]
  rfl
theorem mo_b36 {k : Int32 → Int32 → Int32 → Mem → Option Int32} {n u : Nat} {x v5 : Int32} {τ : Mem} {g : Nat} (hg : g < 4) (hu : u ≤ 12) : Mo_within_b36 k (n + 1) x (nI u) v5 (nI g) τ = Mo_within_b36 k n (upS (fun q => τ 1 (u + q)) x g) (nI u) v5 (nI (g + 1)) τ := by
  rw [Mo_within_b36, if_neg (i4 hg), nI_1, nI_add]
  unfold upS
  by_cases hb : (x >>> (nI g &&& 31)) &&& 1 = 1
  · rw [if_neg (fun q => q hb), if_pos (pmIn_nI (by omega) (by omega)), if_pos hb, nI_clamp (by omega)]
  · rw [if_pos hb, if_neg hb]
theorem mo_rd {k : Int32 → Int32 → Int32 → Mem → Option Int32} {u : Nat} {x v5 : Int32} {τ : Mem} (hu : u ≤ 12) : Mo_within_b36 k FU x (nI u) v5 0 τ = k (upR (fun q => τ 1 (u + q)) x) (nI u) (v5 + 1) τ := by
  show Mo_within_b36 k (2095 + 1 + 1 + 1 + 1 + 1) x (nI u) v5 (nI 0) τ = _
  rw [mo_b36 (by omega) hu, mo_b36 (by omega) hu, mo_b36 (by omega) hu, mo_b36 (by omega) hu, Mo_within_b36, if_pos (by decide)]
  rfl
theorem mo_b27 {n u : Nat} {x : Int32} {τ : Mem} {g : Nat} (hg : g < 4) (hu : u ≤ 12) : Mo_within_b27 (n + 1) x (nI u) (nI g) τ = Mo_within_b27 n (upR (fun q => τ 1 (u + q)) x) (nI u) (nI (g + 1)) τ := by
  rw [Mo_within_b27, if_neg (i4 hg), mo_rd hu, nI_1]
theorem mo_up {u : Nat} {x : Int32} {τ : Mem} (hu : u ≤ 12) : Mo_within_b27 FU x (nI u) 0 τ = some (upA (fun q => τ 1 (u + q)) x) := by
  show Mo_within_b27 (2095 + 1 + 1 + 1 + 1 + 1) x (nI u) (nI 0) τ = _
  rw [mo_b27 (by omega) hu, mo_b27 (by omega) hu, mo_b27 (by omega) hu, mo_b27 (by omega) hu, Mo_within_b27, if_pos (by decide)]
  rfl
theorem mo_within {s w : Nat} {τ : Mem} (hs : s < 4) (hw : w < 4) : Mo_within (nI s) (nI w) τ = some (upA (fun q => τ 1 ((if 2 ≤ s then 12 else 4) + q)) (τ 1 (4 * s + w))) := by
  unfold Mo_within
  have e : (4 : Int32) * nI s + nI w = nI (4 * s + w) := by
    rw [show (4 : Int32) = nI 4 from rfl, pk_mul, nI_add]
  rw [e, if_pos (pmIn_nI (by omega) (by omega)), nI_clamp (by omega)]
  by_cases h : 2 ≤ s
  · have h2 : (2 : Int32) ≤ nI s := nI_le (a := 2) h (by omega)
    rw [if_pos h, if_pos h2]
    exact mo_up (u := 12) (by omega)
  · have h2 : ¬ (2 : Int32) ≤ nI s := nI_ge (a := s) (b := 2) (by omega) (by omega)
    rw [if_neg h, if_neg h2]
    exact mo_up (u := 4) (by omega)
