/-- the jumps js all set to x -/
def pt (N : Nat → Int32) (js : List Nat) (x : Int32) : Nat → Int32 := fun k => if k ∈ js then x else N k
/-- from h on the jumps js are linked, downwards, all at u0 or above and below u -/
def Lk (N : Nat → Int32) (u0 : Nat) : Nat → Int32 → List Nat → Prop
  | _, h, [] => h = -1
  | u, h, q :: js => h = nI q ∧ u0 ≤ q ∧ q < u ∧ Lk N u0 q (N q) js
theorem pt_nil (N : Nat → Int32) (x : Int32) : pt N [] x = N := by
  funext k
  unfold pt
  rw [if_neg (by simp)]
theorem Lk_cg {N N1 : Nat → Int32} {u0 : Nat} : ∀ (js : List Nat) (u : Nat) (h : Int32), Lk N u0 u h js → (∀ k, u0 ≤ k → k < u → N1 k = N k) → Lk N1 u0 u h js
  | [], _, _, e, _ => e
  | q :: js, u, h, ⟨a, b, c, d⟩, hN => ⟨a, b, c, by
    rw [hN q b c]
    exact Lk_cg js q _ d (fun k k0 hk => hN k k0 (by omega))⟩
theorem Lk_mono {N : Nat → Int32} {u0 u u1 : Nat} {h : Int32} (hu : u ≤ u1) : ∀ (js : List Nat), Lk N u0 u h js → Lk N u0 u1 h js
  | [], e => e
  | _ :: _, ⟨a, b, c, d⟩ => ⟨a, b, by omega, d⟩
theorem Lk_mem {N : Nat → Int32} {u0 : Nat} : ∀ (js : List Nat) (u : Nat) (h : Int32), Lk N u0 u h js → ∀ k, k ∈ js → u0 ≤ k ∧ k < u
  | [], _, _, _, k, hk => by cases hk
  | q :: js, u, h, ⟨_, b, c, d⟩, k, hk => by
    rcases List.mem_cons.mp hk with rfl | hk
    · exact ⟨b, c⟩
    · have := Lk_mem js q _ d k hk
      omega
section
variable {τ0 : Mem} {i : Nat} {ρ g top : Int32} {l a : Nat} {f : Int32} {C : Nat → Int32} {F : Mem} {u0 : Nat}
theorem M_patchL : ∀ (js : List Nat) (u n : Nat) (h : Int32) (N : Nat → Int32), Lk N u0 u h js → u ≤ 160 → u < n → Mo_patch_b2 n h (mkM τ0 i ρ g top l a f C N F) = some (mkM τ0 i ρ g top l a f C (pt N js (nI l)) F)
  | [], u, n + 1, h, N, e, _, _ => by
    have e : h = -1 := e
    subst e
    rw [Mo_patch_b2, if_pos (by decide), pt_nil]
  | q :: js, u, n + 1, h, N, ⟨e, b, c, d⟩, hu, hn => by
    subst e
    have e : 2560 + nI q = nI (2560 + q) := nI_add 2560 q
    rw [Mo_patch_b2, if_neg (nI_pos (by omega)), e, if_pos (pmIn_nI (by omega) (by omega)), if_pos (by decide), if_pos (pmIn_nI (by omega) (by omega)), nI_clamp (by omega), M_N, M_l, M_p13]
    rw [M_patchL js q n (N q) (upR1 N q (nI l)) (Lk_cg js q _ d (fun k _ hk => if_neg (by omega))) (by omega) (by omega)]
    congr 2
    funext k
    unfold pt upR1
    by_cases h1 : k ∈ js
    · rw [if_pos h1, if_pos (List.mem_cons_of_mem _ h1)]
    · rw [if_neg h1]
      by_cases h2 : k = q
      · rw [if_pos h2, if_pos (by rw [h2]; exact List.mem_cons_self)]
      · rw [if_neg h2, if_neg (fun z => by
          rcases List.mem_cons.mp z with z | z
          · exact h2 z
          · exact h1 z)]
theorem M_patch {js : List Nat} {u : Nat} {h : Int32} {N : Nat → Int32} (hk : Lk N u0 u h js) (hu : u ≤ 160) : Mo_patch h (mkM τ0 i ρ g top l a f C N F) = some (mkM τ0 i ρ g top l a f C (pt N js (nI l)) F) := M_patchL js u FU h N hk hu (by unfold FU; omega)
end
/-- what a chain of & or | with jumps js stands for, ended here, or with one jump more -/
def CSt (c : Int32) (C N : Nat → Int32) (js : List Nat) (l0 l a : Nat) (e : Den) : Prop :=
  SegM C (pt N js (nI l)) l0 l a e ∧ ∀ (C1 N1 : Nat → Int32), (∀ q, l0 ≤ q → q < l → C1 q = C q ∧ N1 q = N q) → C1 l = c → ∀ T, ChM c C1 (pt N1 (l :: js) (nI T)) l0 (l + 1) T a e
theorem CSt_first {c : Int32} {C N : Nat → Int32} {l0 l a : Nat} {e : Den} (hc : c = 1 ∨ c = 2) (h : SegM C N l0 l a e) : CSt c C N [] l0 l a e := by
  refine ⟨by rw [pt_nil]; exact h, fun C1 N1 hq hl T => ?_⟩
  refine ChM_first hc (SegM_cg h (fun q a b => ⟨(hq q a b).1, ?_⟩)) hl ?_
  · show (if q ∈ [l] then nI T else N1 q) = N q
    rw [if_neg (by simp; omega)]
    exact (hq q a b).2
  · show (if l ∈ [l] then nI T else N1 l) = nI T
    rw [if_pos (by simp)]
theorem CSt_next {c : Int32} {C N : Nat → Int32} {js : List Nat} {l0 lm l a b : Nat} {e1 e2 : Den} (hc : c = 1 ∨ c = 2) (hj : ∀ k, k ∈ js → l0 ≤ k ∧ k < lm) (h1 : ∀ T, ChM c C (pt N js (nI T)) l0 lm T a e1) (h2 : SegM C N lm l b e2) : CSt c C N js l0 l (a + b) (dJ c e1 e2) := by
  have hlm := (h1 0).1
  refine ⟨ChM_end (h1 l) (SegM_cg h2 (fun q a b => ⟨rfl, ?_⟩)), fun C1 N1 hq hl T => ?_⟩
  · show (if q ∈ js then nI l else N q) = N q
    rw [if_neg (fun z => by have := hj q z; omega)]
  · have e := h2.1
    refine ChM_next hc (ChM_cg (h1 T) (fun q a b => ⟨(hq q a (by omega)).1, ?_⟩)) (SegM_cg h2 (fun q a b => ⟨(hq q (by omega) b).1, ?_⟩)) hl ?_
    · show (if q ∈ l :: js then nI T else N1 q) = (if q ∈ js then nI T else N q)
      rw [(hq q a (by omega)).2]
      by_cases h3 : q ∈ js
      · rw [if_pos h3, if_pos (List.mem_cons_of_mem _ h3)]
      · rw [if_neg h3, if_neg (fun z => by
          rcases List.mem_cons.mp z with z | z
          · omega
          · exact h3 z)]
    · show (if q ∈ l :: js then nI T else N1 q) = N q
      rw [(hq q (by omega) b).2, if_neg (fun z => by
          rcases List.mem_cons.mp z with z | z
          · omega
          · have := hj q z
            omega)]
    · show (if l ∈ l :: js then nI T else N1 l) = nI T
      rw [if_pos List.mem_cons_self]
/-- dependence of one condition -/
def DepE (L : Int32) (e : Den) : Prop := (∀ σ σ1 r, WldX σ σ1 → e σ1 r = e σ r) ∧ ∀ σw r r1, OkW σw → r < 2048 → r1 < 2048 → r / 512 = r1 / 512 → r / 32 % 4 = r1 / 32 % 4 → nI (r % 32) &&& L = nI (r1 % 32) &&& L → e σw r = e σw r1
theorem and_or_l {x y L M : Int32} (h : x &&& (L ||| M) = y &&& (L ||| M)) : x &&& L = y &&& L := by
  have e : ∀ z : Int32, z &&& L = (z &&& (L ||| M)) &&& L := fun z => by
    rw [← Int32.toBitVec_inj]
    simp only [Int32.toBitVec_and, Int32.toBitVec_or]
    ext i hi
    simp only [BitVec.getElem_and, BitVec.getElem_or]
    cases z.toBitVec[i] <;> cases L.toBitVec[i] <;> cases M.toBitVec[i] <;> rfl
  rw [e x, e y, h]
theorem and_or_r {x y L M : Int32} (h : x &&& (L ||| M) = y &&& (L ||| M)) : x &&& M = y &&& M := by
  have e : ∀ z : Int32, z &&& M = (z &&& (L ||| M)) &&& M := fun z => by
    rw [← Int32.toBitVec_inj]
    simp only [Int32.toBitVec_and, Int32.toBitVec_or]
    ext i hi
    simp only [BitVec.getElem_and, BitVec.getElem_or]
    cases z.toBitVec[i] <;> cases L.toBitVec[i] <;> cases M.toBitVec[i] <;> rfl
  rw [e x, e y, h]
theorem DepE_up {L x : Int32} {e : Den} (h : DepE L e) : DepE (L ||| x) e := ⟨h.1, fun σw r r1 a b c d f g => h.2 σw r r1 a b c d f (and_or_l g)⟩
theorem DepE_not {L : Int32} {e : Den} (h : DepE L e) : DepE L (dNot e) := by
  refine ⟨fun σ σ1 r hw => ?_, fun σw r r1 a b c d f g => ?_⟩
  · unfold dNot
    rw [h.1 σ σ1 r hw]
  · unfold dNot
    rw [h.2 σw r r1 a b c d f g]
theorem DepE_bin {L c : Int32} {e1 e2 : Den} (h1 : DepE L e1) (h2 : DepE L e2) : DepE L (dBin c e1 e2) := by
  refine ⟨fun σ σ1 r hw => ?_, fun σw r r1 a b c d f g => ?_⟩
  · unfold dBin
    rw [h1.1 σ σ1 r hw, h2.1 σ σ1 r hw]
  · unfold dBin
    rw [h1.2 σw r r1 a b c d f g, h2.2 σw r r1 a b c d f g]
theorem DepE_and {L : Int32} {e1 e2 : Den} (h1 : DepE L e1) (h2 : DepE L e2) : DepE L (dAnd e1 e2) := by
  refine ⟨fun σ σ1 r hw => ?_, fun σw r r1 a b c d f g => ?_⟩
  · unfold dAnd
    rw [h1.1 σ σ1 r hw, h2.1 σ σ1 r hw]
  · unfold dAnd
    rw [h1.2 σw r r1 a b c d f g, h2.2 σw r r1 a b c d f g]
theorem DepE_or {L : Int32} {e1 e2 : Den} (h1 : DepE L e1) (h2 : DepE L e2) : DepE L (dOr e1 e2) := by
  refine ⟨fun σ σ1 r hw => ?_, fun σw r r1 a b c d f g => ?_⟩
  · unfold dOr
    rw [h1.1 σ σ1 r hw, h2.1 σ σ1 r hw]
  · unfold dOr
    rw [h1.2 σw r r1 a b c d f g, h2.2 σw r r1 a b c d f g]
theorem DepE_ch {L : Int32} {e1 e2 e3 : Den} (h1 : DepE L e1) (h2 : DepE L e2) (h3 : DepE L e3) : DepE L (dCh e1 e2 e3) := by
  refine ⟨fun σ σ1 r hw => ?_, fun σw r r1 a b c d f g => ?_⟩
  · unfold dCh
    rw [h1.1 σ σ1 r hw, h2.1 σ σ1 r hw, h3.1 σ σ1 r hw]
  · unfold dCh
    rw [h1.2 σw r r1 a b c d f g, h2.2 σw r r1 a b c d f g, h3.2 σw r r1 a b c d f g]
theorem Tr_not {e : Den} (h : Tr01 e) : Tr01 (dNot e) := by
  intro σw r a b v hv
  unfold dNot at hv
  cases h0 : e σw r with
  | none => rw [h0] at hv; cases hv
  | some x =>
    rw [h0, Option.bind_some] at hv
    cases hv
    rcases h σw r a b x h0 with rfl | rfl
    · exact Or.inr rfl
    · exact Or.inl rfl
theorem Tr_bin {c : Int32} {e1 e2 : Den} (hc : c = 60 ∨ c = 61 ∨ c = 35) : Tr01 (dBin c e1 e2) := by
  intro σw r a b v hv
  unfold dBin at hv
  cases h1 : e1 σw r with
  | none => rw [h1] at hv; cases hv
  | some x =>
    cases h2 : e2 σw r with
    | none => rw [h1, h2] at hv; cases hv
    | some y =>
      rw [h1, h2, Option.bind_some, Option.bind_some] at hv
      cases hv
      unfold Mo_reckon
      rcases hc with rfl | rfl | rfl
      · rw [if_neg (by decide), if_neg (by decide), if_pos (by decide)]
        split <;> simp
      · rw [if_neg (by decide), if_neg (by decide), if_neg (by decide), if_pos (by decide)]
        split <;> simp
      · rw [if_neg (by decide), if_neg (by decide), if_neg (by decide), if_neg (by decide)]
        split <;> simp
theorem Tr_and {e1 e2 : Den} (h1 : Tr01 e1) (h2 : Tr01 e2) : Tr01 (dAnd e1 e2) := by
  intro σw r a b v hv
  unfold dAnd at hv
  cases h0 : e1 σw r with
  | none => rw [h0] at hv; cases hv
  | some x =>
    rw [h0, Option.bind_some] at hv
    by_cases hx : x = 0
    · rw [if_pos hx] at hv
      cases hv
      exact Or.inl hx
    · rw [if_neg hx] at hv
      exact h2 σw r a b v hv
theorem Tr_or {e1 e2 : Den} (h1 : Tr01 e1) (h2 : Tr01 e2) : Tr01 (dOr e1 e2) := by
  intro σw r a b v hv
  unfold dOr at hv
  cases h0 : e1 σw r with
  | none => rw [h0] at hv; cases hv
  | some x =>
    rw [h0, Option.bind_some] at hv
    by_cases hx : x = 0
    · rw [if_pos hx] at hv
      exact h2 σw r a b v hv
    · rw [if_neg hx] at hv
      cases hv
      exact h1 σw r a b _ h0
theorem Tr_ch {e1 e2 e3 : Den} (h2 : Tr01 e2) (h3 : Tr01 e3) : Tr01 (dCh e1 e2 e3) := by
  intro σw r a b v hv
  unfold dCh at hv
  cases h0 : e1 σw r with
  | none => rw [h0] at hv; cases hv
  | some x =>
    rw [h0, Option.bind_some] at hv
    by_cases hx : x = 0
    · rw [if_pos hx] at hv
      exact h3 σw r a b v hv
    · rw [if_neg hx] at hv
      exact h2 σw r a b v hv
