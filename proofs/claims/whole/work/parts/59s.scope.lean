section
variable {p : Nat} {σ0 τ0 : Mem} {len i : Nat} {ρ : Int32} {a : Nat} {P : Int32} {j : Nat} {L f : Int32} {K W : Nat → Int32} {g top : Int32} {l : Nat} {C N : Nat → Int32} {F : Mem}
theorem x_q (hp : isPo p) {k : Nat} (hk : k ≠ 9 ∧ k ≠ 3 ∧ k ≠ 1) (v : Int32) : mput (mkX p σ0 i ρ a P j L f K W) p k v = mkX p (mput σ0 p k v) i ρ a P j L f K W := by
  have := po_ne hp
  funext c q
  by_cases h : c = p
  · subst h
    unfold mput mkX
    have e1 : ¬ c = 15 := by omega
    simp only [e1, if_false, if_true]
    by_cases h2 : q = k
    · subst h2
      simp only [if_true, hk.1, hk.2.1, hk.2.2, if_false]
    · simp only [h2, if_false]
  · rw [mrow_ne h]
    unfold mkX
    by_cases h1 : c = 15
    · subst h1
      have e1 : ¬ 15 = p := by omega
      simp only [if_true, mput_ne (σ := σ0) (c := p) (k := k) (x := v) (a := 15) (b := q) (by omega)]
    · have e2 : mput σ0 p k v c q = σ0 c q := mput_ne (by omega)
      simp only [h1, h, if_false, e2]
theorem M_q {c : Nat} (hc : c = 7 ∨ c = 8) (k : Nat) (v : Int32) : mput (mkM τ0 i ρ g top l a f C N F) c k v = mkM (mput τ0 c k v) i ρ g top l a f C N F := by
  funext c1 q
  by_cases h : c1 = c
  · subst h
    have e : ∀ τ, mkM τ i ρ g top l a f C N F c1 = τ c1 := fun τ => by
      rcases hc with rfl | rfl <;> rfl
    rw [e]
    unfold mput
    rw [e]
  · rw [mrow_ne h]
    have e : ∀ c2 q, c2 ≠ c → mput τ0 c k v c2 q = τ0 c2 q := fun c2 q h => mput_ne (by omega)
    unfold mkM
    rw [e 0 q (by omega), e 9 q (by omega), e 10 q (by omega), e 11 q (by omega), e 12 q (by omega), e 13 q (by omega), e c1 q h]
theorem CT_x (h : CT p σ0 τ0 len) (k : Nat) (v : Int32) : CT p (mput σ0 p k v) τ0 len := by
  obtain ⟨h1, h2, h3, h4, h5, h6⟩ := h
  have := po_ne h1
  refine ⟨h1, h2, by rw [mput_ne (by omega)]; exact h3, by rw [mput_ne (by omega)]; exact h4, h5, fun k hk => ?_⟩
  rw [mput_ne (by omega)]
  exact h6 k hk
theorem CT_m (h : CT p σ0 τ0 len) {c : Nat} (hc : c = 7 ∨ c = 8) (k : Nat) (v : Int32) : CT p σ0 (mput τ0 c k v) len := by
  obtain ⟨h1, h2, h3, h4, h5, h6⟩ := h
  refine ⟨h1, h2, h3, h4, by rw [mput_ne (by omega)]; exact h5, fun k hk => ?_⟩
  rw [mput_ne (by omega)]
  exact h6 k hk
theorem dd_q (hp : isPo p) {b : Bool} {σ : Mem} (h : Dead p σ0 len b ρ σ) {k : Nat} (hk : k ≠ 9 ∧ k ≠ 3 ∧ k ≠ 1) (v : Int32) : Dead p (mput σ0 p k v) len b ρ (mput σ p k v) := by
  rcases h with ⟨h0, i, a, P, j, L, f, K, W, hj, hi, rfl⟩ | ⟨hb, e, a, P, j, L, f, K, W, hj, rfl⟩
  · exact Or.inl ⟨h0, i, a, P, j, L, f, K, W, hj, hi, x_q hp hk v⟩
  · exact Or.inr ⟨hb, e, a, P, j, L, f, K, W, hj, x_q hp hk v⟩
theorem digit_d (hC : CT p σ0 τ0 len) {b : Bool} {σ : Mem} (h : Dead p σ0 len b ρ σ) : ∃ σ1, Re_digit σ = some (0, σ1) ∧ Dead p σ0 len true ρ σ1 := by
  obtain ⟨σ1, e1, h1⟩ := dd_rb hC h
  refine ⟨σ1, ?_, h1⟩
  unfold Re_digit
  rw [dd_nx hC h, Option.bind_some, if_neg (fun z => z (by decide)), e1, Option.bind_some]
theorem digit_y (hC : CT p σ0 τ0 len) (hi : i < len) {q : Nat} (hq : q < 4) (e : σ0 16 i = nI (48 + q)) : Re_digit (mkX p σ0 i 0 a P j L f K W) = some (nI q, mkX p σ0 (i + 1) 0 a P j L f K W) := by
  unfold Re_digit
  have e2 : nI (48 + q) - 48 = nI q ∧ ¬ Ps_isOne (nI (48 + q) - 48) = 0 := by
    rcases (show q = 0 ∨ q = 1 ∨ q = 2 ∨ q = 3 by omega) with rfl | rfl | rfl | rfl <;> decide
  rw [r_nx hC hi, Option.bind_some, e, if_pos e2.2, e2.1, x_pos, nI_1, x_p3]
theorem digit_n (hC : CT p σ0 τ0 len) (hi : i < len) (hj : j ≤ 160) {n : Nat} (hn : n < 256) (h : n < 48 ∨ 51 < n) (e : σ0 16 i = nI n) : ∃ σ1, Re_digit (mkX p σ0 i 0 a P j L f K W) = some (0, σ1) ∧ Dead p σ0 len true (-10 - nI i) σ1 := by
  have hlen := hC.2.1
  unfold Re_digit
  rcases isOne_t hn with ⟨z, -⟩ | ⟨q, hq, e3, -⟩
  · rw [r_nx hC hi, Option.bind_some, e, if_neg (fun y => y z), r_rb i rfl, Option.bind_some]
    exact ⟨_, rfl, Or.inl ⟨ne_sub (by omega) (Or.inl rfl), _, _, _, _, _, _, _, _, hj, by omega, rfl⟩⟩
  · omega
theorem scope_d (hC : CT p σ0 τ0 len) {b : Bool} {σ : Mem} (h : Dead p σ0 len b ρ σ) (v : Int32) : ∃ s σ1, Re_scope v σ = some (s, σ1) ∧ Dead p σ0 len true ρ σ1 := by
  obtain ⟨σ1, e1, h1⟩ := digit_d hC h
  refine ⟨0, σ1, ?_, h1⟩
  unfold Re_scope Re_scope_b43
  rw [dd_nx hC h, Option.bind_some, if_pos (show ¬ (-1 : Int32) = 42 by decide), Option.bind_some, if_pos (show ¬ (-1 : Int32) = 64 by decide), e1, Option.bind_some, ite_self]
/-- the reference's scope, from its byte on -/
theorem sc114 {x : Nat} (hx : x < 3) (s : Int32) : Mo_readScope_b114 (nI (48 + x)) s (mkM τ0 i ρ g top l a f C N F) = some (mkM (mput τ0 8 (48 + x) s) (i + 1) ρ g top l a f C N F) := by
  unfold Mo_readScope_b114
  rw [if_pos (pmIn_nI (by omega) (by omega)), nI_clamp (by omega), M_q (Or.inr rfl), M_i, nI_1, M_p14]
theorem sc83_0 {x : Nat} (hx : x < 3) (v2 v3 : Int32) : Mo_readScope_b83 (nI x) v2 v3 0 (mkM τ0 i ρ g top l a f C N F) = some (mkM (mput τ0 8 (48 + x) (-1)) (i + 1) ρ g top l a f C N F) := by
  unfold Mo_readScope_b83
  rw [if_pos rfl, show (48 : Int32) + nI x = nI (48 + x) from nI_add 48 x]
  exact sc114 hx (-1)
theorem sc41_y {x q : Nat} (hx : x < 3) (hq : q < 4) {v3 : Int32} : Mo_readScope_b41 (nI x) (nI (48 + q)) v3 (mkM τ0 i ρ g top l a f C N F) = some (mkM (mput τ0 8 (48 + x) (nI q + (if v3 = 0 then 0 else 4))) (i + 1) ρ g top l a f C N F) := by
  have e2 : nI (48 + q) - 48 = nI q ∧ ¬ nI (48 + q) < 48 ∧ ¬ 51 < nI (48 + q) := by
    rcases (show q = 0 ∨ q = 1 ∨ q = 2 ∨ q = 3 by omega) with rfl | rfl | rfl | rfl <;> decide
  unfold Mo_readScope_b41 Mo_readScope_b58 Mo_readScope_b83 Mo_readScope_b109
  rw [if_neg e2.2.1, if_neg e2.2.2, if_pos (by decide), if_neg (by decide), e2.1, show (48 : Int32) + nI x = nI (48 + x) from nI_add 48 x]
  by_cases h : v3 = 0
  · rw [if_pos h, if_pos h]
    exact sc114 hx _
  · rw [if_neg h, if_neg h]
    exact sc114 hx _
theorem sc41_s {x : Nat} (hx : x < 3) : Mo_readScope_b41 (nI x) 42 0 (mkM τ0 i ρ g top l a f C N F) = some (mkM (mput τ0 8 (48 + x) (-1)) (i + 1) ρ g top l a f C N F) := by
  unfold Mo_readScope_b41 Mo_readScope_b57 Mo_readScope_b58
  rw [if_pos (by decide), if_neg (fun z => z rfl), if_neg (fun z => z rfl), if_pos rfl]
  exact sc83_0 hx _ _
theorem sc75 {x : Nat} (hx : x < 3) (v2 v3 : Int32) : ∃ ρ1, Mo_readScope_b75 (nI x) v2 v3 0 (mkM τ0 i ρ g top l a f C N F) = some (mkM (mput τ0 8 (48 + x) (-1)) (i + 1) ρ1 g top l a f C N F) ∧ ρ1 = if ρ = 0 then -10 - nI i else ρ := by
  unfold Mo_readScope_b75
  by_cases h : ρ = 0
  · subst h
    rw [M_i, M_blame, Option.bind_some, if_pos rfl]
    exact ⟨_, sc83_0 hx _ _, rfl⟩
  · rw [M_blameR _ h, Option.bind_some, if_neg h]
    exact ⟨_, sc83_0 hx _ _, rfl⟩
theorem sc41_n {x : Nat} (hx : x < 3) {v2 v3 : Int32} (h : v2 < 48 ∨ 51 < v2) (h2 : ¬ v3 = 0 ∨ ¬ v2 = 42) : ∃ ρ1, Mo_readScope_b41 (nI x) v2 v3 (mkM τ0 i ρ g top l a f C N F) = some (mkM (mput τ0 8 (48 + x) (-1)) (i + 1) ρ1 g top l a f C N F) ∧ ρ1 = if ρ = 0 then -10 - nI i else ρ := by
  have e : Mo_readScope_b57 (nI x) v2 v3 (mkM τ0 i ρ g top l a f C N F) = Mo_readScope_b75 (nI x) v2 v3 0 (mkM τ0 i ρ g top l a f C N F) := by
    unfold Mo_readScope_b57 Mo_readScope_b58
    rw [if_neg (fun z => z rfl)]
    by_cases h3 : v3 = 0
    · rw [if_neg (fun z => z h3), if_neg (h2.resolve_left (fun z => z h3))]
    · rw [if_pos h3]
  have e2 : Mo_readScope_b41 (nI x) v2 v3 (mkM τ0 i ρ g top l a f C N F) = Mo_readScope_b75 (nI x) v2 v3 0 (mkM τ0 i ρ g top l a f C N F) := by
    unfold Mo_readScope_b41
    by_cases h3 : v2 < 48
    · rw [if_pos h3, e]
    · rw [if_neg h3, if_pos (h.resolve_left h3), e]
  rw [e2]
  exact sc75 hx v2 v3
theorem T_scope (hC : CT p σ0 τ0 len) (hi0 : i ≤ len) (hj : j ≤ 160) {x : Nat} (hx : x < 3) : ∃ s σ1, Re_scope (if x = 1 then 0 else 1) (mkX p σ0 i 0 a P j L f K W) = some (s, σ1) ∧
    ((∃ ρ s2 i2, Dead p σ0 len true ρ σ1 ∧ Mo_readScope (nI x) (mkM τ0 i 0 g top l a f C N F) = some (mkM (mput τ0 8 (48 + x) s2) i2 ρ g top l a f C N F)) ∨
     (∃ i1, σ1 = mkX p σ0 i1 0 a P j L f K W ∧ i < i1 ∧ i1 ≤ len ∧ isScp (if x = 1 then 4 else 8) s ∧ Mo_readScope (nI x) (mkM τ0 i 0 g top l a f C N F) = some (mkM (mput τ0 8 (48 + x) s) i1 0 g top l a f C N F))) := by
  have hlen := hC.2.1
  have nz : ∀ k, k ≤ 170 → (-10 - nI k : Int32) ≠ 0 := fun k hk => ne_sub (by omega) (Or.inl rfl)
  rcases (show i = len ∨ i < len by omega) with hi | hi
  · subst hi
    have hdd : Dead p σ0 i false (-10 - nI i) (mkX p σ0 i 0 a P j L f K W) := Or.inr ⟨rfl, rfl, _, _, _, _, _, _, _, hj, rfl⟩
    obtain ⟨s, σ1, e1, h1⟩ := scope_d hC hdd (if x = 1 then 0 else 1)
    obtain ⟨ρ1, e2, e3⟩ := sc41_n (τ0 := τ0) (i := i) (ρ := -10 - nI i) (g := g) (top := top) (l := l) (a := a) (f := f) (C := C) (N := N) (F := F) hx (v2 := -1) (v3 := 0) (Or.inl (by decide)) (Or.inr (by decide))
    rw [if_neg (nz i (by omega))] at e3
    subst e3
    refine ⟨s, σ1, e1, Or.inl ⟨_, -1, i + 1, h1, ?_⟩⟩
    unfold Mo_readScope Mo_readScope_b20 Mo_readScope_b21
    rw [M_hereE hC, Option.bind_some, if_pos (show ¬ (-1 : Int32) = 64 by decide), if_pos rfl]
    exact e2
  · obtain ⟨n, hn, en⟩ := (hC.2.2.2.2.2 i hi).2
    have hm : ∀ b : Nat, b < 256 → (σ0 16 i = nI b ↔ n = b) := fun b hb => by rw [en]; exact nI_eq (by omega) (by omega)
    by_cases h42 : n = 42
    · have e42 : σ0 16 i = 42 := (hm 42 (by omega)).mpr h42
      refine ⟨-1, mkX p σ0 (i + 1) 0 a P j L f K W, ?_, Or.inr ⟨i + 1, rfl, by omega, hi, Or.inl rfl, ?_⟩⟩
      · unfold Re_scope
        rw [r_nx hC hi, Option.bind_some, if_neg (fun z => z e42), r_tk hC hi e42, Option.bind_some]
      · unfold Mo_readScope Mo_readScope_b20 Mo_readScope_b21
        rw [M_here hC hi, Option.bind_some, e42, if_pos (show ¬ (42 : Int32) = 64 by decide), if_pos rfl]
        exact sc41_s hx
    · have n42 : ¬ σ0 16 i = 42 := fun z => h42 ((hm 42 (by omega)).mp z)
      by_cases h64 : n = 64 ∧ x ≠ 1
      · have e64 : σ0 16 i = 64 := (hm 64 (by omega)).mpr h64.1
        have hv : ¬ (if x = 1 then (0 : Int32) else 1) = 0 := by rw [if_neg h64.2]; decide
        have hx1 : ¬ nI x = 1 := fun z => h64.2 ((nI_eq (b := 1) (by omega) (by omega)).mp z)
        have ec : Re_scope (if x = 1 then 0 else 1) (mkX p σ0 i 0 a P j L f K W) = (Re_digit (mkX p σ0 (i + 1) 0 a P j L f K W)).bind fun q38 => some ((4 + q38.1), q38.2) := by
          unfold Re_scope
          rw [r_nx hC hi, Option.bind_some, if_pos n42, if_neg hv, Option.bind_some, if_neg (fun z => z e64), r_tk hC hi e64, Option.bind_some]
        have er : Mo_readScope (nI x) (mkM τ0 i 0 g top l a f C N F) = (Mo_here (mkM τ0 (i + 1) 0 g top l a f C N F)).bind fun q37 => Mo_readScope_b41 (nI x) q37.1 1 q37.2 := by
          unfold Mo_readScope Mo_readScope_b21
          rw [M_here hC hi, Option.bind_some]
          show (if ¬ σ0 16 i = 64 then _ else if nI x = 1 then _ else if (1 : Int32) = 0 then _ else (Mo_here (mput (mkM τ0 i 0 g top l a f C N F) 0 14 (nI i + 1))).bind fun q37 => Mo_readScope_b41 (nI x) q37.1 1 q37.2) = _
          rw [if_neg (fun z => z e64), if_neg hx1, if_neg (by decide), nI_1, M_p14]
        rw [ec, er]
        rcases (show i + 1 = len ∨ i + 1 < len by omega) with he | he
        · have hdd : Dead p σ0 len false (-10 - nI len) (mkX p σ0 len 0 a P j L f K W) := Or.inr ⟨rfl, rfl, _, _, _, _, _, _, _, hj, rfl⟩
          obtain ⟨σ1, e1, h1⟩ := digit_d hC hdd
          obtain ⟨ρ1, e2, e3⟩ := sc41_n (τ0 := τ0) (i := len) (ρ := -10 - nI len) (g := g) (top := top) (l := l) (a := a) (f := f) (C := C) (N := N) (F := F) hx (v2 := -1) (v3 := 1) (Or.inl (by decide)) (Or.inl (by decide))
          rw [if_neg (nz len (by omega))] at e3
          subst e3
          rw [he, e1, M_hereE hC, Option.bind_some, Option.bind_some]
          exact ⟨_, σ1, rfl, Or.inl ⟨_, -1, len + 1, h1, e2⟩⟩
        · obtain ⟨n2, hn2, en2⟩ := (hC.2.2.2.2.2 (i + 1) he).2
          rw [M_here hC he, Option.bind_some]
          by_cases hd : 48 ≤ n2 ∧ n2 ≤ 51
          · obtain ⟨q, rfl⟩ : ∃ q, n2 = 48 + q := ⟨n2 - 48, by omega⟩
            rw [digit_y hC he (q := q) (by omega) en2, Option.bind_some]
            refine ⟨4 + nI q, _, rfl, Or.inr ⟨i + 1 + 1, rfl, by omega, he, ?_, ?_⟩⟩
            · rw [if_neg h64.2]
              exact Or.inr ⟨4 + q, by omega, nI_add 4 q⟩
            · show Mo_readScope_b41 (nI x) (σ0 16 (i + 1)) 1 (mkM τ0 (i + 1) 0 g top l a f C N F) = _
              rw [en2, sc41_y hx (by omega), if_neg (by decide), show nI q + 4 = 4 + nI q from Int32.add_comm _ _]
          · have hd2 : n2 < 48 ∨ 51 < n2 := by omega
            obtain ⟨σ1, e1, h1⟩ := digit_n (a := a) (P := P) (L := L) (f := f) (K := K) (W := W) hC he hj hn2 hd2 en2
            obtain ⟨ρ1, e2, e3⟩ := sc41_n (τ0 := τ0) (i := i + 1) (ρ := 0) (g := g) (top := top) (l := l) (a := a) (f := f) (C := C) (N := N) (F := F) hx (v2 := σ0 16 (i + 1)) (v3 := 1) (by
              rw [en2]
              rcases hd2 with h | h
              · exact Or.inl (nI_lt (b := 48) h (by omega))
              · exact Or.inr (nI_lt (a := 51) h (by omega))) (Or.inl (by decide))
            rw [if_pos rfl] at e3
            subst e3
            rw [e1, Option.bind_some]
            exact ⟨_, σ1, rfl, Or.inl ⟨_, -1, i + 1 + 1, h1, e2⟩⟩
      · have ec : Re_scope (if x = 1 then 0 else 1) (mkX p σ0 i 0 a P j L f K W) = Re_digit (mkX p σ0 i 0 a P j L f K W) := by
          unfold Re_scope Re_scope_b43
          rw [r_nx hC hi, Option.bind_some, if_pos n42, bP]
          by_cases hx1 : x = 1
          · rw [if_pos hx1, if_pos rfl]
          · rw [if_neg hx1, if_neg (by decide), Option.bind_some, if_pos (show ¬ σ0 16 i = 64 from fun z => h64 ⟨(hm 64 (by omega)).mp z, hx1⟩)]
        have er : Mo_readScope (nI x) (mkM τ0 i 0 g top l a f C N F) = Mo_readScope_b41 (nI x) (σ0 16 i) 0 (mkM τ0 i 0 g top l a f C N F) := by
          unfold Mo_readScope Mo_readScope_b20 Mo_readScope_b21
          rw [M_here hC hi, Option.bind_some]
          show (if ¬ σ0 16 i = 64 then (if (0 : Int32) = 0 then Mo_readScope_b41 (nI x) (σ0 16 i) 0 (mkM τ0 i 0 g top l a f C N F) else _) else if nI x = 1 then (if (0 : Int32) = 0 then Mo_readScope_b41 (nI x) (σ0 16 i) 0 (mkM τ0 i 0 g top l a f C N F) else _) else _) = _
          by_cases h : σ0 16 i = 64
          · have hx1 : x = 1 := Classical.not_not.mp (fun z => h64 ⟨(hm 64 (by omega)).mp h, z⟩)
            rw [if_neg (fun z => z h), if_pos (by rw [hx1]; rfl), if_pos rfl]
          · rw [if_pos h, if_pos rfl]
        rw [ec, er]
        by_cases hd : 48 ≤ n ∧ n ≤ 51
        · obtain ⟨q, rfl⟩ : ∃ q, n = 48 + q := ⟨n - 48, by omega⟩
          refine ⟨nI q, _, digit_y hC hi (q := q) (by omega) en, Or.inr ⟨i + 1, rfl, by omega, hi, Or.inr ⟨q, ?_, rfl⟩, ?_⟩⟩
          · split <;> omega
          · rw [en, sc41_y hx (by omega), if_pos rfl, show nI q + 0 = nI q from Int32.add_zero _]
        · have hd2 : n < 48 ∨ 51 < n := by omega
          obtain ⟨σ1, e1, h1⟩ := digit_n (a := a) (P := P) (L := L) (f := f) (K := K) (W := W) hC hi hj hn hd2 en
          obtain ⟨ρ1, e2, e3⟩ := sc41_n (τ0 := τ0) (i := i) (ρ := 0) (g := g) (top := top) (l := l) (a := a) (f := f) (C := C) (N := N) (F := F) hx (v2 := σ0 16 i) (v3 := 0) (by
            rw [en]
            rcases hd2 with h | h
            · exact Or.inl (nI_lt (b := 48) h (by omega))
            · exact Or.inr (nI_lt (a := 51) h (by omega))) (Or.inr n42)
          rw [if_pos rfl] at e3
          subst e3
          exact ⟨_, σ1, e1, Or.inl ⟨_, -1, i + 1, h1, e2⟩⟩
end
