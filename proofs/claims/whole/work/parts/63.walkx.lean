theorem L_Re_comparison_b58 {S : pmS} (d n : Nat) {rc : Nat → Int32 → Int32 → Mem → Option (Int32 × Mem)} (Hrc : ∀ {s : Nat} {a b : Int32} {σ τ : Mem} {z : Int32 × Mem}, rc s a b σ = some z → pmX S (d + n + 4) (jrcT s) [.ref 15, .int a, .int b] (shH σ τ) (some (.int z.1)) (shH z.2 τ))  {v1 : Int32} {v2 : Int32} {v4 : Int32} {v5 : Int32} {σ τ : Mem} {z : Int32 × Mem}  (h : Re_comparison_b58 rc v1 v2 v4 v5 σ = some z) : pmU S (d + n + 4) 49 58 [some (.ref 15), some (.int v1), some (.int v2), none, some (.int v4), some (.int v5), none, none] [] (shH σ τ) (some (.int z.1)) (shH z.2 τ) := by
  unfold Re_comparison_b58 at h
  refine pmSeg_U (pc' := 61) (ls' := [some (.ref 15), some (.int v1), some (.int v2), none, some (.int v4), some (.int v5), none, none]) (st' := [.int v5, .ref 15]) 2 rfl ?_
  obtain ⟨q61, hq61, h⟩ := bd_in h
  refine pmU_C (av := [.ref 15, .int v5]) (rest := []) rfl rfl rfl rfl rfl (L_Re_take (d + n + 2) hq61) ?_
  refine pmSeg_U (pc' := 73) (ls' := [some (.ref 15), some (.int v1), some (.int v2), none, some (.int v4), some (.int v5), some (.int (q61 15 3)), none]) (st' := [.int v2, .int v1, .ref 15]) 6 rfl ?_
  obtain ⟨q73, hq73, h⟩ := bd_in h
  refine pmU_C (av := [.ref 15, .int v1, .int v2]) (rest := []) rfl rfl rfl rfl rfl (Hrc hq73) ?_
  refine pmSeg_U (pc' := 85) (ls' := [some (.ref 15), some (.int v1), some (.int v2), none, some (.int v4), some (.int v5), some (.int (q61 15 3)), some (.int q73.1)]) (st' := [.int (q61 15 3), .int v4, .int q73.1, .ref 15]) 5 rfl ?_
  obtain ⟨q85, hq85, h⟩ := bd_in h
  refine pmU_C (av := [.ref 15, .int q73.1, .int v4, .int (q61 15 3)]) (rest := []) rfl rfl rfl rfl rfl (L_Re_lookAtEnded (d + n + 2) hq85) ?_
  obtain ⟨g1, h⟩ := gd_in h
  refine pmSeg_U (pc' := 89) (ls' := [some (.ref 15), some (.int v1), some (.int v2), none, some (.int v4), some (.int v5), some (.int (q61 15 3)), some (.int q73.1)]) (st' := [.ref 15]) 1 rfl ?_
  refine pu_get rfl rfl rfl (shp_mX rfl (by decide) (po_nn g1)) ?_
  refine pmSeg_U (pc' := 95) (ls' := [some (.ref 15), some (.int v1), some (.int v2), none, some (.int v4), some (.int v5), some (.int (q61 15 3)), some (.int q73.1)]) (st' := [.int 0, .int v5, .ref (ix (q85 15 2))]) 2 rfl ?_
  obtain ⟨q95, hq95, h⟩ := bd_in h
  refine pmU_C (av := [.ref (ix (q85 15 2)), .int v5, .int 0]) (rest := []) rfl rfl rfl rfl (pmC_virt rfl rfl rfl (Po_k g1)) (L_Po_append (d + n + 2) g1 hq95) ?_
  refine pmSeg_U (pc' := 100) (ls' := [some (.ref 15), some (.int v1), some (.int v2), none, some (.int v4), some (.int v5), some (.int (q61 15 3)), some (.int q73.1)]) (st' := [.int 0, .ref 15]) 2 rfl ?_
  refine pu_put rfl rfl rfl rfl rfl (shp_pX rfl (by decide)) ?_
  refine pmSeg_U (pc' := 104) (ls' := [some (.ref 15), some (.int v1), some (.int v2), none, some (.int v4), some (.int v5), some (.int (q61 15 3)), some (.int q73.1)]) (st' := [.int 1]) 1 rfl ?_
  cases h
  exact pmU_T rfl rfl rfl rfl rfl rfl
theorem L_Re_comparison_b43 {S : pmS} (d n : Nat) {rc : Nat → Int32 → Int32 → Mem → Option (Int32 × Mem)} (Hrc : ∀ {s : Nat} {a b : Int32} {σ τ : Mem} {z : Int32 × Mem}, rc s a b σ = some z → pmX S (d + n + 4) (jrcT s) [.ref 15, .int a, .int b] (shH σ τ) (some (.int z.1)) (shH z.2 τ))  {v1 : Int32} {v2 : Int32} {v3 : Int32} {v4 : Int32} {v5 : Int32} {σ τ : Mem} {z : Int32 × Mem}  (h : Re_comparison_b43 rc v1 v2 v3 v4 v5 σ = some z) : pmU S (d + n + 4) 49 43 [some (.ref 15), some (.int v1), some (.int v2), some (.int v3), some (.int v4), some (.int v5), none, none] [] (shH σ τ) (some (.int z.1)) (shH z.2 τ) := by
  unfold Re_comparison_b43 at h
  refine pmSeg_U (pc' := 47) (ls' := [some (.ref 15), some (.int v1), some (.int v2), some (.int v3), some (.int v4), some (.int v5), none, none]) (st' := [.int 60, .int v5]) 2 rfl ?_
  refine pu_icmpP (tg := 58) h rfl rfl rfl (fun h => ?_) (fun h => ?_)
  · refine pmSeg_U (pc' := 58) (ls' := [some (.ref 15), some (.int v1), some (.int v2), some (.int v3), some (.int v4), some (.int v5), none, none]) (st' := []) 0 rfl ?_
    refine pmU_le (a := [some (.ref 15), some (.int v1), some (.int v2), none, some (.int v4), some (.int v5), none, none]) (le_s (le_s (le_s (le_v rfl (le_s (le_s (le_s (le_s le_nil)))))))) ?_
    exact L_Re_comparison_b58 d n Hrc h
  · refine pmSeg_U (pc' := 55) (ls' := [some (.ref 15), some (.int v1), some (.int v2), some (.int v3), some (.int v4), some (.int v5), none, none]) (st' := [.int v3, .int 0, .int v4, .ref 15]) 4 rfl ?_
    obtain ⟨q55, hq55, h⟩ := bd_in h
    refine pmU_C (av := [.ref 15, .int v4, .int 0, .int v3]) (rest := []) rfl rfl rfl rfl rfl (L_Re_lookAt (d + n + 3) hq55) ?_
    refine pmSeg_U (pc' := 58) (ls' := [some (.ref 15), some (.int v1), some (.int v2), some (.int v3), some (.int v4), some (.int v5), none, none]) (st' := []) 0 rfl ?_
    refine pmU_le (a := [some (.ref 15), some (.int v1), some (.int v2), none, some (.int v4), some (.int v5), none, none]) (le_s (le_s (le_s (le_v rfl (le_s (le_s (le_s (le_s le_nil)))))))) ?_
    exact L_Re_comparison_b58 d n Hrc h
theorem L_Re_comparison {S : pmS} (d n : Nat) {rc : Nat → Int32 → Int32 → Mem → Option (Int32 × Mem)} (Hrc : ∀ {s : Nat} {a b : Int32} {σ τ : Mem} {z : Int32 × Mem}, rc s a b σ = some z → pmX S (d + n + 4) (jrcT s) [.ref 15, .int a, .int b] (shH σ τ) (some (.int z.1)) (shH z.2 τ))  {v1 : Int32} {v2 : Int32} {σ τ : Mem} {z : Int32 × Mem}  (h : Re_comparison rc v1 v2 σ = some z) : pmU S (d + n + 4) 49 0 [some (.ref 15), some (.int v1), some (.int v2), none, none, none, none, none] [] (shH σ τ) (some (.int z.1)) (shH z.2 τ) := by
  unfold Re_comparison at h
  refine pmSeg_U (pc' := 8) (ls' := [some (.ref 15), some (.int v1), some (.int v2), some (.int (σ 15 3)), none, none, none, none]) (st' := [.int v2, .int v1, .ref 15]) 6 rfl ?_
  obtain ⟨q8, hq8, h⟩ := bd_in h
  refine pmU_C (av := [.ref 15, .int v1, .int v2]) (rest := []) rfl rfl rfl rfl rfl (Hrc hq8) ?_
  refine pmSeg_U (pc' := 14) (ls' := [some (.ref 15), some (.int v1), some (.int v2), some (.int (σ 15 3)), some (.int q8.1), none, none, none]) (st' := [.ref 15]) 2 rfl ?_
  obtain ⟨q14, hq14, h⟩ := bd_in h
  refine pmU_C (av := [.ref 15]) (rest := []) rfl rfl rfl rfl rfl (L_Re_next (d + n + 3) hq14) ?_
  refine pmSeg_U (pc' := 23) (ls' := [some (.ref 15), some (.int v1), some (.int v2), some (.int (σ 15 3)), some (.int q8.1), some (.int q14), none, none]) (st' := [.int 60, .int q14]) 3 rfl ?_
  refine pu_icmpP (tg := 43) h rfl rfl rfl (fun h => ?_) (fun h => ?_)
  · refine pmSeg_U (pc' := 43) (ls' := [some (.ref 15), some (.int v1), some (.int v2), some (.int (σ 15 3)), some (.int q8.1), some (.int q14), none, none]) (st' := []) 0 rfl ?_
    exact L_Re_comparison_b43 d n Hrc h
  · refine pmSeg_U (pc' := 30) (ls' := [some (.ref 15), some (.int v1), some (.int v2), some (.int (σ 15 3)), some (.int q8.1), some (.int q14), none, none]) (st' := [.int 61, .int q14]) 2 rfl ?_
    refine pu_icmpP (tg := 43) h rfl rfl rfl (fun h => ?_) (fun h => ?_)
    · refine pmSeg_U (pc' := 43) (ls' := [some (.ref 15), some (.int v1), some (.int v2), some (.int (σ 15 3)), some (.int q8.1), some (.int q14), none, none]) (st' := []) 0 rfl ?_
      exact L_Re_comparison_b43 d n Hrc h
    · refine pmSeg_U (pc' := 37) (ls' := [some (.ref 15), some (.int v1), some (.int v2), some (.int (σ 15 3)), some (.int q8.1), some (.int q14), none, none]) (st' := [.int 35, .int q14]) 2 rfl ?_
      refine pu_icmpP (tg := 43) h rfl rfl rfl (fun h => ?_) (fun h => ?_)
      · refine pmSeg_U (pc' := 43) (ls' := [some (.ref 15), some (.int v1), some (.int v2), some (.int (σ 15 3)), some (.int q8.1), some (.int q14), none, none]) (st' := []) 0 rfl ?_
        exact L_Re_comparison_b43 d n Hrc h
      · refine pmSeg_U (pc' := 42) (ls' := [some (.ref 15), some (.int v1), some (.int v2), some (.int (σ 15 3)), some (.int q8.1), some (.int q14), none, none]) (st' := [.int q8.1]) 1 rfl ?_
        cases h
        exact pmU_T rfl rfl rfl rfl rfl rfl
theorem L_Re_ands_b105 {S : pmS} (d n : Nat) {rc : Nat → Int32 → Int32 → Mem → Option (Int32 × Mem)} (Hrc : ∀ {s : Nat} {a b : Int32} {σ τ : Mem} {z : Int32 × Mem}, rc s a b σ = some z → pmX S (d + n + 4) (jrcT s) [.ref 15, .int a, .int b] (shH σ τ) (some (.int z.1)) (shH z.2 τ))  {v4 : Int32} {v5 : Int32} {σ τ : Mem} {z : Int32 × Mem}  (h : Re_ands_b105 rc v4 v5 σ = some z) : pmU S (d + n + 4) 48 105 [some (.ref 15), none, none, none, some (.int v4), some (.int v5), none, none, none] [] (shH σ τ) (some (.int z.1)) (shH z.2 τ) := by
  unfold Re_ands_b105 at h
  refine pmSeg_U (pc' := 108) (ls' := [some (.ref 15), none, none, none, some (.int v4), some (.int v5), none, none, none]) (st' := [.int v5, .ref 15]) 2 rfl ?_
  refine pu_put rfl rfl rfl rfl rfl (shp_pX rfl (by decide)) ?_
  refine pmSeg_U (pc' := 113) (ls' := [some (.ref 15), none, none, none, some (.int v4), some (.int v5), none, none, none]) (st' := [.int v4]) 1 rfl ?_
  cases h
  exact pmU_T rfl rfl rfl rfl rfl rfl
theorem L_Re_ands_b22 {S : pmS} (d n : Nat) {rc : Nat → Int32 → Int32 → Mem → Option (Int32 × Mem)} (Hrc : ∀ {s : Nat} {a b : Int32} {σ τ : Mem} {z : Int32 × Mem}, rc s a b σ = some z → pmX S (d + n + 4) (jrcT s) [.ref 15, .int a, .int b] (shH σ τ) (some (.int z.1)) (shH z.2 τ))  : ∀ (n0 : Nat) {v1 : Int32} {v2 : Int32} {v3 : Int32} {v4 : Int32} {v5 : Int32} {v6 : Int32} {σ τ : Mem} {z : Int32 × Mem}, Re_ands_b22 rc n0 v1 v2 v3 v4 v5 v6 σ = some z → pmU S (d + n + 4) 48 22 [some (.ref 15), some (.int v1), some (.int v2), some (.int v3), some (.int v4), some (.int v5), some (.int v6), none, none] [] (shH σ τ) (some (.int z.1)) (shH z.2 τ) := by
  intro n0
  induction n0 with
  | zero =>
    intro v1 v2 v3 v4 v5 v6 σ τ z  h
    unfold Re_ands_b22 at h
    cases h
  | succ n1 ih =>
    intro v1 v2 v3 v4 v5 v6 σ τ z  h
    unfold Re_ands_b22 at h
    refine pmSeg_U (pc' := 27) (ls' := [some (.ref 15), some (.int v1), some (.int v2), some (.int v3), some (.int v4), some (.int v5), some (.int v6), none, none]) (st' := [.int 160, .int v6]) 2 rfl ?_
    refine pu_icmpP (tg := 105) h rfl rfl rfl (fun h => ?_) (fun h => ?_)
    · refine pmSeg_U (pc' := 105) (ls' := [some (.ref 15), some (.int v1), some (.int v2), some (.int v3), some (.int v4), some (.int v5), some (.int v6), none, none]) (st' := []) 0 rfl ?_
      refine pmU_le (a := [some (.ref 15), none, none, none, some (.int v4), some (.int v5), none, none, none]) (le_s (le_v rfl (le_v rfl (le_v rfl (le_s (le_s (le_v rfl (le_s (le_s le_nil))))))))) ?_
      exact L_Re_ands_b105 d n Hrc h
    · refine pmSeg_U (pc' := 31) (ls' := [some (.ref 15), some (.int v1), some (.int v2), some (.int v3), some (.int v4), some (.int v5), some (.int v6), none, none]) (st' := [.ref 15]) 1 rfl ?_
      obtain ⟨q31, hq31, h⟩ := bd_in h
      refine pmU_C (av := [.ref 15]) (rest := []) rfl rfl rfl rfl rfl (L_Re_next (d + n + 3) hq31) ?_
      refine pmSeg_U (pc' := 36) (ls' := [some (.ref 15), some (.int v1), some (.int v2), some (.int v3), some (.int v4), some (.int v5), some (.int v6), none, none]) (st' := [.int 38, .int q31]) 1 rfl ?_
      refine pu_icmpP (tg := 105) h rfl rfl rfl (fun h => ?_) (fun h => ?_)
      · refine pmSeg_U (pc' := 105) (ls' := [some (.ref 15), some (.int v1), some (.int v2), some (.int v3), some (.int v4), some (.int v5), some (.int v6), none, none]) (st' := []) 0 rfl ?_
        refine pmU_le (a := [some (.ref 15), none, none, none, some (.int v4), some (.int v5), none, none, none]) (le_s (le_v rfl (le_v rfl (le_v rfl (le_s (le_s (le_v rfl (le_s (le_s le_nil))))))))) ?_
        exact L_Re_ands_b105 d n Hrc h
      · refine pmSeg_U (pc' := 44) (ls' := [some (.ref 15), some (.int v1), some (.int v2), some (.int v3), some (.int v4), some (.int v5), some (.int v6), none, none]) (st' := [.int v3, .int 1, .int v4, .ref 15]) 4 rfl ?_
        obtain ⟨q44, hq44, h⟩ := bd_in h
        refine pmU_C (av := [.ref 15, .int v4, .int 1, .int v3]) (rest := []) rfl rfl rfl rfl rfl (L_Re_lookAt (d + n + 3) hq44) ?_
        refine pmSeg_U (pc' := 50) (ls' := [some (.ref 15), some (.int v1), some (.int v2), some (.int v3), some (.int v4), some (.int v5), some (.int v6), none, none]) (st' := [.int 38, .ref 15]) 2 rfl ?_
        obtain ⟨q50, hq50, h⟩ := bd_in h
        refine pmU_C (av := [.ref 15, .int 38]) (rest := []) rfl rfl rfl rfl rfl (L_Re_branch (d + n + 0) hq50) ?_
        refine pmSeg_U (pc' := 67) (ls' := [some (.ref 15), some (.int v1), some (.int v2), some (.int v3), some (.int v4), some (.int v5), some (.int v6), some (.int q50.1), some (.int (q50.2 15 3))]) (st' := [.int (v2 ||| v5), .int v1, .ref 15]) 9 rfl ?_
        obtain ⟨q67, hq67, h⟩ := bd_in h
        refine pmU_C (av := [.ref 15, .int v1, .int (v2 ||| v5)]) (rest := []) rfl rfl rfl rfl rfl (Hrc hq67) ?_
        refine pmSeg_U (pc' := 78) (ls' := [some (.ref 15), some (.int v1), some (.int v2), some (.int v3), some (.int q67.1), some (.int v5), some (.int v6), some (.int q50.1), some (.int (q50.2 15 3))]) (st' := [.int (q50.2 15 3), .int 1, .int q67.1, .ref 15]) 5 rfl ?_
        obtain ⟨q78, hq78, h⟩ := bd_in h
        refine pmU_C (av := [.ref 15, .int q67.1, .int 1, .int (q50.2 15 3)]) (rest := []) rfl rfl rfl rfl rfl (L_Re_lookAtEnded (d + n + 2) hq78) ?_
        obtain ⟨g1, h⟩ := gd_in h
        refine pmSeg_U (pc' := 91) (ls' := [some (.ref 15), some (.int v1), some (.int v2), some (.int v3), some (.int q67.1), some (.int (v5 ||| (q78 15 6))), some (.int v6), some (.int q50.1), some (.int (q50.2 15 3))]) (st' := [.ref 15]) 6 rfl ?_
        refine pu_get rfl rfl rfl (shp_mX rfl (by decide) (po_nn g1)) ?_
        refine pmSeg_U (pc' := 96) (ls' := [some (.ref 15), some (.int v1), some (.int v2), some (.int v3), some (.int q67.1), some (.int (v5 ||| (q78 15 6))), some (.int v6), some (.int q50.1), some (.int (q50.2 15 3))]) (st' := [.int q50.1, .ref (ix (q78 15 2))]) 1 rfl ?_
        obtain ⟨q96, hq96, h⟩ := bd_in h
        refine pmU_C (av := [.ref (ix (q78 15 2)), .int q50.1]) (rest := []) rfl rfl rfl rfl (pmC_virt rfl rfl rfl (Po_k g1)) (L_Po_landHere (d + n + 3) g1 hq96) ?_
        refine pmSeg_U (pc' := 22) (ls' := [some (.ref 15), some (.int v1), some (.int v2), some (.int v3), some (.int q67.1), some (.int (v5 ||| (q78 15 6))), some (.int (v6 + 1)), some (.int q50.1), some (.int (q50.2 15 3))]) (st' := []) 2 rfl ?_
        refine pmU_le (a := [some (.ref 15), some (.int v1), some (.int v2), some (.int v3), some (.int q67.1), some (.int (v5 ||| (q78 15 6))), some (.int (v6 + 1)), none, none]) (le_s (le_s (le_s (le_s (le_s (le_s (le_s (le_v rfl (le_v rfl le_nil))))))))) ?_
        exact ih h
theorem L_Re_ands {S : pmS} (d n : Nat) {rc : Nat → Int32 → Int32 → Mem → Option (Int32 × Mem)} (Hrc : ∀ {s : Nat} {a b : Int32} {σ τ : Mem} {z : Int32 × Mem}, rc s a b σ = some z → pmX S (d + n + 4) (jrcT s) [.ref 15, .int a, .int b] (shH σ τ) (some (.int z.1)) (shH z.2 τ))  {v1 : Int32} {v2 : Int32} {σ τ : Mem} {z : Int32 × Mem}  (h : Re_ands rc v1 v2 σ = some z) : pmU S (d + n + 4) 48 0 [some (.ref 15), some (.int v1), some (.int v2), none, none, none, none, none, none] [] (shH σ τ) (some (.int z.1)) (shH z.2 τ) := by
  unfold Re_ands at h
  refine pmSeg_U (pc' := 8) (ls' := [some (.ref 15), some (.int v1), some (.int v2), some (.int (σ 15 3)), none, none, none, none, none]) (st' := [.int v2, .int v1, .ref 15]) 6 rfl ?_
  obtain ⟨q8, hq8, h⟩ := bd_in h
  refine pmU_C (av := [.ref 15, .int v1, .int v2]) (rest := []) rfl rfl rfl rfl rfl (Hrc hq8) ?_
  refine pmSeg_U (pc' := 22) (ls' := [some (.ref 15), some (.int v1), some (.int v2), some (.int (σ 15 3)), some (.int q8.1), some (.int (q8.2 15 6)), some (.int 0), none, none]) (st' := []) 6 rfl ?_
  exact L_Re_ands_b22 d n Hrc FU h
theorem L_Re_alternatives_b102 {S : pmS} (d n : Nat) {rc : Nat → Int32 → Int32 → Mem → Option (Int32 × Mem)} (Hrc : ∀ {s : Nat} {a b : Int32} {σ τ : Mem} {z : Int32 × Mem}, rc s a b σ = some z → pmX S (d + n + 4) (jrcT s) [.ref 15, .int a, .int b] (shH σ τ) (some (.int z.1)) (shH z.2 τ))  {v4 : Int32} {v5 : Int32} {σ τ : Mem} {z : Int32 × Mem}  (h : Re_alternatives_b102 rc v4 v5 σ = some z) : pmU S (d + n + 4) 47 102 [some (.ref 15), none, none, none, some (.int v4), some (.int v5), none, none, none] [] (shH σ τ) (some (.int z.1)) (shH z.2 τ) := by
  unfold Re_alternatives_b102 at h
  refine pmSeg_U (pc' := 105) (ls' := [some (.ref 15), none, none, none, some (.int v4), some (.int v5), none, none, none]) (st' := [.int v5, .ref 15]) 2 rfl ?_
  refine pu_put rfl rfl rfl rfl rfl (shp_pX rfl (by decide)) ?_
  refine pmSeg_U (pc' := 110) (ls' := [some (.ref 15), none, none, none, some (.int v4), some (.int v5), none, none, none]) (st' := [.int v4]) 1 rfl ?_
  cases h
  exact pmU_T rfl rfl rfl rfl rfl rfl
theorem L_Re_alternatives_b22 {S : pmS} (d n : Nat) {rc : Nat → Int32 → Int32 → Mem → Option (Int32 × Mem)} (Hrc : ∀ {s : Nat} {a b : Int32} {σ τ : Mem} {z : Int32 × Mem}, rc s a b σ = some z → pmX S (d + n + 4) (jrcT s) [.ref 15, .int a, .int b] (shH σ τ) (some (.int z.1)) (shH z.2 τ))  : ∀ (n0 : Nat) {v1 : Int32} {v2 : Int32} {v3 : Int32} {v4 : Int32} {v5 : Int32} {v6 : Int32} {σ τ : Mem} {z : Int32 × Mem}, Re_alternatives_b22 rc n0 v1 v2 v3 v4 v5 v6 σ = some z → pmU S (d + n + 4) 47 22 [some (.ref 15), some (.int v1), some (.int v2), some (.int v3), some (.int v4), some (.int v5), some (.int v6), none, none] [] (shH σ τ) (some (.int z.1)) (shH z.2 τ) := by
  intro n0
  induction n0 with
  | zero =>
    intro v1 v2 v3 v4 v5 v6 σ τ z  h
    unfold Re_alternatives_b22 at h
    cases h
  | succ n1 ih =>
    intro v1 v2 v3 v4 v5 v6 σ τ z  h
    unfold Re_alternatives_b22 at h
    refine pmSeg_U (pc' := 27) (ls' := [some (.ref 15), some (.int v1), some (.int v2), some (.int v3), some (.int v4), some (.int v5), some (.int v6), none, none]) (st' := [.int 160, .int v6]) 2 rfl ?_
    refine pu_icmpP (tg := 102) h rfl rfl rfl (fun h => ?_) (fun h => ?_)
    · refine pmSeg_U (pc' := 102) (ls' := [some (.ref 15), some (.int v1), some (.int v2), some (.int v3), some (.int v4), some (.int v5), some (.int v6), none, none]) (st' := []) 0 rfl ?_
      refine pmU_le (a := [some (.ref 15), none, none, none, some (.int v4), some (.int v5), none, none, none]) (le_s (le_v rfl (le_v rfl (le_v rfl (le_s (le_s (le_v rfl (le_s (le_s le_nil))))))))) ?_
      exact L_Re_alternatives_b102 d n Hrc h
    · refine pmSeg_U (pc' := 31) (ls' := [some (.ref 15), some (.int v1), some (.int v2), some (.int v3), some (.int v4), some (.int v5), some (.int v6), none, none]) (st' := [.ref 15]) 1 rfl ?_
      obtain ⟨q31, hq31, h⟩ := bd_in h
      refine pmU_C (av := [.ref 15]) (rest := []) rfl rfl rfl rfl rfl (L_Re_next (d + n + 3) hq31) ?_
      refine pmSeg_U (pc' := 36) (ls' := [some (.ref 15), some (.int v1), some (.int v2), some (.int v3), some (.int v4), some (.int v5), some (.int v6), none, none]) (st' := [.int 124, .int q31]) 1 rfl ?_
      refine pu_icmpP (tg := 102) h rfl rfl rfl (fun h => ?_) (fun h => ?_)
      · refine pmSeg_U (pc' := 102) (ls' := [some (.ref 15), some (.int v1), some (.int v2), some (.int v3), some (.int v4), some (.int v5), some (.int v6), none, none]) (st' := []) 0 rfl ?_
        refine pmU_le (a := [some (.ref 15), none, none, none, some (.int v4), some (.int v5), none, none, none]) (le_s (le_v rfl (le_v rfl (le_v rfl (le_s (le_s (le_v rfl (le_s (le_s le_nil))))))))) ?_
        exact L_Re_alternatives_b102 d n Hrc h
      · refine pmSeg_U (pc' := 44) (ls' := [some (.ref 15), some (.int v1), some (.int v2), some (.int v3), some (.int v4), some (.int v5), some (.int v6), none, none]) (st' := [.int v3, .int 1, .int v4, .ref 15]) 4 rfl ?_
        obtain ⟨q44, hq44, h⟩ := bd_in h
        refine pmU_C (av := [.ref 15, .int v4, .int 1, .int v3]) (rest := []) rfl rfl rfl rfl rfl (L_Re_lookAt (d + n + 3) hq44) ?_
        refine pmSeg_U (pc' := 50) (ls' := [some (.ref 15), some (.int v1), some (.int v2), some (.int v3), some (.int v4), some (.int v5), some (.int v6), none, none]) (st' := [.int 124, .ref 15]) 2 rfl ?_
        obtain ⟨q50, hq50, h⟩ := bd_in h
        refine pmU_C (av := [.ref 15, .int 124]) (rest := []) rfl rfl rfl rfl rfl (L_Re_branch (d + n + 0) hq50) ?_
        refine pmSeg_U (pc' := 64) (ls' := [some (.ref 15), some (.int v1), some (.int v2), some (.int v3), some (.int v4), some (.int v5), some (.int v6), some (.int q50.1), some (.int (q50.2 15 3))]) (st' := [.int v2, .int v1, .ref 15]) 7 rfl ?_
        obtain ⟨q64, hq64, h⟩ := bd_in h
        refine pmU_C (av := [.ref 15, .int v1, .int v2]) (rest := []) rfl rfl rfl rfl rfl (Hrc hq64) ?_
        refine pmSeg_U (pc' := 75) (ls' := [some (.ref 15), some (.int v1), some (.int v2), some (.int v3), some (.int q64.1), some (.int v5), some (.int v6), some (.int q50.1), some (.int (q50.2 15 3))]) (st' := [.int (q50.2 15 3), .int 1, .int q64.1, .ref 15]) 5 rfl ?_
        obtain ⟨q75, hq75, h⟩ := bd_in h
        refine pmU_C (av := [.ref 15, .int q64.1, .int 1, .int (q50.2 15 3)]) (rest := []) rfl rfl rfl rfl rfl (L_Re_lookAtEnded (d + n + 2) hq75) ?_
        obtain ⟨g1, h⟩ := gd_in h
        refine pmSeg_U (pc' := 88) (ls' := [some (.ref 15), some (.int v1), some (.int v2), some (.int v3), some (.int q64.1), some (.int (v5 &&& (q75 15 6))), some (.int v6), some (.int q50.1), some (.int (q50.2 15 3))]) (st' := [.ref 15]) 6 rfl ?_
        refine pu_get rfl rfl rfl (shp_mX rfl (by decide) (po_nn g1)) ?_
        refine pmSeg_U (pc' := 93) (ls' := [some (.ref 15), some (.int v1), some (.int v2), some (.int v3), some (.int q64.1), some (.int (v5 &&& (q75 15 6))), some (.int v6), some (.int q50.1), some (.int (q50.2 15 3))]) (st' := [.int q50.1, .ref (ix (q75 15 2))]) 1 rfl ?_
        obtain ⟨q93, hq93, h⟩ := bd_in h
        refine pmU_C (av := [.ref (ix (q75 15 2)), .int q50.1]) (rest := []) rfl rfl rfl rfl (pmC_virt rfl rfl rfl (Po_k g1)) (L_Po_landHere (d + n + 3) g1 hq93) ?_
        refine pmSeg_U (pc' := 22) (ls' := [some (.ref 15), some (.int v1), some (.int v2), some (.int v3), some (.int q64.1), some (.int (v5 &&& (q75 15 6))), some (.int (v6 + 1)), some (.int q50.1), some (.int (q50.2 15 3))]) (st' := []) 2 rfl ?_
        refine pmU_le (a := [some (.ref 15), some (.int v1), some (.int v2), some (.int v3), some (.int q64.1), some (.int (v5 &&& (q75 15 6))), some (.int (v6 + 1)), none, none]) (le_s (le_s (le_s (le_s (le_s (le_s (le_s (le_v rfl (le_v rfl le_nil))))))))) ?_
        exact ih h
theorem L_Re_alternatives {S : pmS} (d n : Nat) {rc : Nat → Int32 → Int32 → Mem → Option (Int32 × Mem)} (Hrc : ∀ {s : Nat} {a b : Int32} {σ τ : Mem} {z : Int32 × Mem}, rc s a b σ = some z → pmX S (d + n + 4) (jrcT s) [.ref 15, .int a, .int b] (shH σ τ) (some (.int z.1)) (shH z.2 τ))  {v1 : Int32} {v2 : Int32} {σ τ : Mem} {z : Int32 × Mem}  (h : Re_alternatives rc v1 v2 σ = some z) : pmU S (d + n + 4) 47 0 [some (.ref 15), some (.int v1), some (.int v2), none, none, none, none, none, none] [] (shH σ τ) (some (.int z.1)) (shH z.2 τ) := by
  unfold Re_alternatives at h
  refine pmSeg_U (pc' := 8) (ls' := [some (.ref 15), some (.int v1), some (.int v2), some (.int (σ 15 3)), none, none, none, none, none]) (st' := [.int v2, .int v1, .ref 15]) 6 rfl ?_
  obtain ⟨q8, hq8, h⟩ := bd_in h
  refine pmU_C (av := [.ref 15, .int v1, .int v2]) (rest := []) rfl rfl rfl rfl rfl (Hrc hq8) ?_
  refine pmSeg_U (pc' := 22) (ls' := [some (.ref 15), some (.int v1), some (.int v2), some (.int (σ 15 3)), some (.int q8.1), some (.int (q8.2 15 6)), some (.int 0), none, none]) (st' := []) 6 rfl ?_
  exact L_Re_alternatives_b22 d n Hrc FU h
theorem L_Re_rc {S : pmS} (d : Nat) : ∀ (n : Nat) {s : Nat} {a b : Int32} {σ τ : Mem} {z : Int32 × Mem}, Re_rc n s a b σ = some z → pmX S (d + n + 4) (jrcT s) [.ref 15, .int a, .int b] (shH σ τ) (some (.int z.1)) (shH z.2 τ) := by
  intro n
  induction n with
  | zero =>
    intro s a b σ τ z h
    unfold Re_rc at h
    cases h
  | succ n ih =>
    intro s a b σ τ z h
    unfold Re_rc at h
    rw [show d + (n + 1) + 4 = (d + n + 4) + 1 by omega]
    split at h
    · exact pmU_X rfl (L_Re_alternatives d n ih h)
    · exact pmU_X rfl (L_Re_ands d n ih h)
    · exact pmU_X rfl (L_Re_comparison d n ih h)
    · exact pmU_X rfl (L_Re_sum d n ih h)
    · exact pmU_X rfl (L_Re_term d n ih h)
    · exact pmU_X rfl (L_Re_not d n ih h)
    · exact pmU_X rfl (L_Re_bracketed d n ih h)
    · exact pmU_X rfl (L_Re_choice d n ih h)
    · cases h
theorem L_Re_conditions_b113 {S : pmS} (d : Nat)   {k4 : Int32 → Int32 → Mem → Option Mem} (Hk4 : ∀ {v1 : Int32} {v2 : Int32} {σ τ : Mem} {z : Mem}, k4 v1 v2 σ = some z → pmU S (d + 68) 46 4 [some (.ref 15), some (.int v1), some (.int v2), none, none, none] [] (shH σ τ) none (shH z τ)) {v1 : Int32} {v2 : Int32} {σ τ : Mem} {z : Mem}  (h : Re_conditions_b113 k4 v1 v2 σ = some z) : pmU S (d + 68) 46 113 [some (.ref 15), some (.int v1), some (.int v2), none, none, none] [] (shH σ τ) none (shH z τ) := by
  unfold Re_conditions_b113 at h
  obtain ⟨g1, h⟩ := gd_in h
  refine pmSeg_U (pc' := 114) (ls' := [some (.ref 15), some (.int v1), some (.int v2), none, none, none]) (st' := [.ref 15]) 1 rfl ?_
  refine pu_get rfl rfl rfl (shp_mX rfl (by decide) (po_nn g1)) ?_
  refine pmSeg_U (pc' := 120) (ls' := [some (.ref 15), some (.int v1), some (.int v2), none, none, none]) (st' := [.int 0, .int 63, .ref (ix (σ 15 2))]) 2 rfl ?_
  obtain ⟨q120, hq120, h⟩ := bd_in h
  refine pmU_C (av := [.ref (ix (σ 15 2)), .int 63, .int 0]) (rest := []) rfl rfl rfl rfl (pmC_virt rfl rfl rfl (Po_k g1)) (L_Po_append (d + 66) g1 hq120) ?_
  refine pmSeg_U (pc' := 4) (ls' := [some (.ref 15), some (.int v1), some (.int (v2 + 1)), none, none, none]) (st' := []) 2 rfl ?_
  exact Hk4 h
theorem L_Re_conditions_b43 {S : pmS} (d : Nat)   {k4 : Int32 → Int32 → Mem → Option Mem} (Hk4 : ∀ {v1 : Int32} {v2 : Int32} {σ τ : Mem} {z : Mem}, k4 v1 v2 σ = some z → pmU S (d + 68) 46 4 [some (.ref 15), some (.int v1), some (.int v2), none, none, none] [] (shH σ τ) none (shH z τ)) {v1 : Int32} {v2 : Int32} {s0 : Int32} {σ τ : Mem} {z : Mem}  (h : Re_conditions_b43 k4 v1 v2 s0 σ = some z) : pmU S (d + 68) 46 43 [some (.ref 15), some (.int v1), some (.int v2), none, none, none] [.int s0] (shH σ τ) none (shH z τ) := by
  unfold Re_conditions_b43 at h
  refine pmSeg_U (pc' := 51) (ls' := [some (.ref 15), some (.int v1), some (.int v2), some (.int s0), none, none]) (st' := [.int ((σ 15 3) + 1), .ref 15]) 6 rfl ?_
  refine pu_put rfl rfl rfl rfl rfl (shp_pX rfl (by decide)) ?_
  refine pmSeg_U (pc' := 57) (ls' := [some (.ref 15), some (.int v1), some (.int v2), some (.int s0), none, none]) (st' := [.int 123, .ref 15]) 2 rfl ?_
  obtain ⟨q57, hq57, h⟩ := bd_in h
  refine pmU_C (av := [.ref 15, .int 123]) (rest := []) rfl rfl rfl rfl rfl (L_Re_take (d + 66) hq57) ?_
  refine pmSeg_U (pc' := 69) (ls' := [some (.ref 15), some (.int v1), some (.int v2), some (.int s0), some (.int (q57 15 3)), none]) (st' := [.int v1, .int 0, .ref 15]) 6 rfl ?_
  obtain ⟨q69, hq69, h⟩ := bd_in h
  refine pmU_C (av := [.ref 15, .int 0, .int v1]) (rest := []) rfl rfl rfl rfl rfl (L_Re_rc (d + 0) 64 hq69) ?_
  refine pmSeg_U (pc' := 80) (ls' := [some (.ref 15), some (.int v1), some (.int v2), some (.int s0), some (.int (q57 15 3)), some (.int q69.1)]) (st' := [.int (q57 15 3), .int 1, .int q69.1, .ref 15]) 5 rfl ?_
  obtain ⟨q80, hq80, h⟩ := bd_in h
  refine pmU_C (av := [.ref 15, .int q69.1, .int 1, .int (q57 15 3)]) (rest := []) rfl rfl rfl rfl rfl (L_Re_lookAtEnded (d + 66) hq80) ?_
  refine pmSeg_U (pc' := 86) (ls' := [some (.ref 15), some (.int v1), some (.int v2), some (.int s0), some (.int (q57 15 3)), some (.int q69.1)]) (st' := [.int 125, .ref 15]) 2 rfl ?_
  obtain ⟨q86, hq86, h⟩ := bd_in h
  refine pmU_C (av := [.ref 15, .int 125]) (rest := []) rfl rfl rfl rfl rfl (L_Re_take (d + 66) hq86) ?_
  refine pmSeg_U (pc' := 90) (ls' := [some (.ref 15), some (.int v1), some (.int v2), some (.int s0), some (.int (q57 15 3)), some (.int q69.1)]) (st' := [.int s0]) 1 rfl ?_
  refine pu_ifP (tg := 106) h rfl rfl rfl (fun h => ?_) (fun h => ?_)
  · refine pmSeg_U (pc' := 113) (ls' := [some (.ref 15), some (.int (v1 ||| (q86 15 6))), some (.int v2), some (.int s0), some (.int (q57 15 3)), some (.int q69.1)]) (st' := []) 5 rfl ?_
    refine pmU_le (a := [some (.ref 15), some (.int (v1 ||| (q86 15 6))), some (.int v2), none, none, none]) (le_s (le_s (le_s (le_v rfl (le_v rfl (le_v rfl le_nil)))))) ?_
    exact L_Re_conditions_b113 d Hk4 h
  · obtain ⟨g1, h⟩ := gd_in h
    refine pmSeg_U (pc' := 94) (ls' := [some (.ref 15), some (.int v1), some (.int v2), some (.int s0), some (.int (q57 15 3)), some (.int q69.1)]) (st' := [.ref 15]) 1 rfl ?_
    refine pu_get rfl rfl rfl (shp_mX rfl (by decide) (po_nn g1)) ?_
    refine pmSeg_U (pc' := 100) (ls' := [some (.ref 15), some (.int v1), some (.int v2), some (.int s0), some (.int (q57 15 3)), some (.int q69.1)]) (st' := [.int 0, .int 33, .ref (ix (q86 15 2))]) 2 rfl ?_
    obtain ⟨q100, hq100, h⟩ := bd_in h
    refine pmU_C (av := [.ref (ix (q86 15 2)), .int 33, .int 0]) (rest := []) rfl rfl rfl rfl (pmC_virt rfl rfl rfl (Po_k g1)) (L_Po_append (d + 66) g1 hq100) ?_
    refine pmSeg_U (pc' := 113) (ls' := [some (.ref 15), some (.int v1), some (.int v2), some (.int s0), some (.int (q57 15 3)), some (.int q69.1)]) (st' := []) 1 rfl ?_
    refine pmU_le (a := [some (.ref 15), some (.int v1), some (.int v2), none, none, none]) (le_s (le_s (le_s (le_v rfl (le_v rfl (le_v rfl le_nil)))))) ?_
    exact L_Re_conditions_b113 d Hk4 h
theorem L_Re_conditions_b29 {S : pmS} (d : Nat)   {k4 : Int32 → Int32 → Mem → Option Mem} (Hk4 : ∀ {v1 : Int32} {v2 : Int32} {σ τ : Mem} {z : Mem}, k4 v1 v2 σ = some z → pmU S (d + 68) 46 4 [some (.ref 15), some (.int v1), some (.int v2), none, none, none] [] (shH σ τ) none (shH z τ)) {v1 : Int32} {v2 : Int32} {σ τ : Mem} {z : Mem}  (h : Re_conditions_b29 k4 v1 v2 σ = some z) : pmU S (d + 68) 46 29 [some (.ref 15), some (.int v1), some (.int v2), none, none, none] [] (shH σ τ) none (shH z τ) := by
  unfold Re_conditions_b29 at h
  refine pmSeg_U (pc' := 30) (ls' := [some (.ref 15), some (.int v1), some (.int v2), none, none, none]) (st' := [.ref 15]) 1 rfl ?_
  obtain ⟨q30, hq30, h⟩ := bd_in h
  refine pmU_C (av := [.ref 15]) (rest := []) rfl rfl rfl rfl rfl (L_Re_next (d + 67) hq30) ?_
  refine pmSeg_U (pc' := 35) (ls' := [some (.ref 15), some (.int v1), some (.int v2), none, none, none]) (st' := [.int 33, .int q30]) 1 rfl ?_
  refine pu_icmpP (tg := 42) h rfl rfl rfl (fun h => ?_) (fun h => ?_)
  · refine pmSeg_U (pc' := 43) (ls' := [some (.ref 15), some (.int v1), some (.int v2), none, none, none]) (st' := [.int 0]) 1 rfl ?_
    exact L_Re_conditions_b43 d Hk4 h
  · refine pmSeg_U (pc' := 43) (ls' := [some (.ref 15), some (.int v1), some (.int v2), none, none, none]) (st' := [.int 1]) 2 rfl ?_
    exact L_Re_conditions_b43 d Hk4 h
theorem L_Re_conditions_b4 {S : pmS} (d : Nat)    : ∀ (n0 : Nat) {v1 : Int32} {v2 : Int32} {σ τ : Mem} {z : Mem}, Re_conditions_b4 n0 v1 v2 σ = some z → pmU S (d + 68) 46 4 [some (.ref 15), some (.int v1), some (.int v2), none, none, none] [] (shH σ τ) none (shH z τ) := by
  intro n0
  induction n0 with
  | zero =>
    intro v1 v2 σ τ z  h
    unfold Re_conditions_b4 at h
    cases h
  | succ n1 ih =>
    intro v1 v2 σ τ z  h
    unfold Re_conditions_b4 at h
    refine pmSeg_U (pc' := 8) (ls' := [some (.ref 15), some (.int v1), some (.int v2), none, none, none]) (st' := [.int 160, .int v2]) 2 rfl ?_
    refine pu_icmpP (tg := 129) h rfl rfl rfl (fun h => ?_) (fun h => ?_)
    · refine pmSeg_U (pc' := 129) (ls' := [some (.ref 15), some (.int v1), some (.int v2), none, none, none]) (st' := []) 0 rfl ?_
      cases h
      exact pmU_T rfl rfl rfl rfl rfl rfl
    · refine pmSeg_U (pc' := 12) (ls' := [some (.ref 15), some (.int v1), some (.int v2), none, none, none]) (st' := [.ref 15]) 1 rfl ?_
      obtain ⟨q12, hq12, h⟩ := bd_in h
      refine pmU_C (av := [.ref 15]) (rest := []) rfl rfl rfl rfl rfl (L_Re_next (d + 67) hq12) ?_
      refine pmSeg_U (pc' := 17) (ls' := [some (.ref 15), some (.int v1), some (.int v2), none, none, none]) (st' := [.int 63, .int q12]) 1 rfl ?_
      refine pu_icmpP (tg := 29) h rfl rfl rfl (fun h => ?_) (fun h => ?_)
      · refine pmSeg_U (pc' := 29) (ls' := [some (.ref 15), some (.int v1), some (.int v2), none, none, none]) (st' := []) 0 rfl ?_
        exact L_Re_conditions_b29 d ih h
      · refine pmSeg_U (pc' := 21) (ls' := [some (.ref 15), some (.int v1), some (.int v2), none, none, none]) (st' := [.ref 15]) 1 rfl ?_
        obtain ⟨q21, hq21, h⟩ := bd_in h
        refine pmU_C (av := [.ref 15]) (rest := []) rfl rfl rfl rfl rfl (L_Re_next (d + 67) hq21) ?_
        refine pmSeg_U (pc' := 26) (ls' := [some (.ref 15), some (.int v1), some (.int v2), none, none, none]) (st' := [.int 33, .int q21]) 1 rfl ?_
        refine pu_icmpP (tg := 129) h rfl rfl rfl (fun h => ?_) (fun h => ?_)
        · refine pmSeg_U (pc' := 129) (ls' := [some (.ref 15), some (.int v1), some (.int v2), none, none, none]) (st' := []) 0 rfl ?_
          cases h
          exact pmU_T rfl rfl rfl rfl rfl rfl
        · refine pmSeg_U (pc' := 29) (ls' := [some (.ref 15), some (.int v1), some (.int v2), none, none, none]) (st' := []) 0 rfl ?_
          exact L_Re_conditions_b29 d ih h
theorem L_Re_conditions {S : pmS} (d : Nat)  {σ τ : Mem} {z : Mem}  (h : Re_conditions σ = some z) : pmX S (d + 69) 46 [.ref 15] (shH σ τ) none (shH z τ) := by
  unfold Re_conditions at h
  refine pmU_X rfl ?_
  refine pmSeg_U (pc' := 4) (ls' := [some (.ref 15), some (.int 0), some (.int 0), none, none, none]) (st' := []) 4 rfl ?_
  exact L_Re_conditions_b4 d FU h
theorem L_Re_scope_b43 {S : pmS} (d : Nat)     {σ τ : Mem} {z : Int32 × Mem}  (h : Re_scope_b43 σ = some z) : pmU S (d + 2) 44 43 [some (.ref 15), none] [] (shH σ τ) (some (.int z.1)) (shH z.2 τ) := by
  unfold Re_scope_b43 at h
  refine pmSeg_U (pc' := 44) (ls' := [some (.ref 15), none]) (st' := [.ref 15]) 1 rfl ?_
  obtain ⟨q44, hq44, h⟩ := bd_in h
  refine pmU_C (av := [.ref 15]) (rest := []) rfl rfl rfl rfl rfl (L_Re_digit (d + 0) hq44) ?_
  refine pmSeg_U (pc' := 47) (ls' := [some (.ref 15), none]) (st' := [.int q44.1]) 0 rfl ?_
  cases h
  exact pmU_T rfl rfl rfl rfl rfl rfl
theorem L_Re_scope {S : pmS} (d : Nat) {v1 : Int32} {σ τ : Mem} {z : Int32 × Mem}  (h : Re_scope v1 σ = some z) : pmX S (d + 3) 44 [.ref 15, .int v1] (shH σ τ) (some (.int z.1)) (shH z.2 τ) := by
  unfold Re_scope at h
  refine pmU_X rfl ?_
  refine pmSeg_U (pc' := 1) (ls' := [some (.ref 15), some (.int v1)]) (st' := [.ref 15]) 1 rfl ?_
  obtain ⟨q1, hq1, h⟩ := bd_in h
  refine pmU_C (av := [.ref 15]) (rest := []) rfl rfl rfl rfl rfl (L_Re_next (d + 1) hq1) ?_
  refine pmSeg_U (pc' := 6) (ls' := [some (.ref 15), some (.int v1)]) (st' := [.int 42, .int q1]) 1 rfl ?_
  refine pu_icmpP (tg := 17) h rfl rfl rfl (fun h => ?_) (fun h => ?_)
  · refine pmSeg_U (pc' := 18) (ls' := [some (.ref 15), some (.int v1)]) (st' := [.int v1]) 1 rfl ?_
    refine pu_ifP (tg := 43) h rfl rfl rfl (fun h => ?_) (fun h => ?_)
    · refine pmSeg_U (pc' := 43) (ls' := [some (.ref 15), some (.int v1)]) (st' := []) 0 rfl ?_
      refine pmU_le (a := [some (.ref 15), none]) (le_s (le_v rfl le_nil)) ?_
      exact L_Re_scope_b43 d h
    · refine pmSeg_U (pc' := 22) (ls' := [some (.ref 15), some (.int v1)]) (st' := [.ref 15]) 1 rfl ?_
      obtain ⟨q22, hq22, h⟩ := bd_in h
      refine pmU_C (av := [.ref 15]) (rest := []) rfl rfl rfl rfl rfl (L_Re_next (d + 1) hq22) ?_
      refine pmSeg_U (pc' := 27) (ls' := [some (.ref 15), some (.int v1)]) (st' := [.int 64, .int q22]) 1 rfl ?_
      refine pu_icmpP (tg := 43) h rfl rfl rfl (fun h => ?_) (fun h => ?_)
      · refine pmSeg_U (pc' := 43) (ls' := [some (.ref 15), some (.int v1)]) (st' := []) 0 rfl ?_
        refine pmU_le (a := [some (.ref 15), none]) (le_s (le_v rfl le_nil)) ?_
        exact L_Re_scope_b43 d h
      · refine pmSeg_U (pc' := 33) (ls' := [some (.ref 15), some (.int v1)]) (st' := [.int 64, .ref 15]) 2 rfl ?_
        obtain ⟨q33, hq33, h⟩ := bd_in h
        refine pmU_C (av := [.ref 15, .int 64]) (rest := []) rfl rfl rfl rfl rfl (L_Re_take (d + 0) hq33) ?_
        refine pmSeg_U (pc' := 38) (ls' := [some (.ref 15), some (.int v1)]) (st' := [.ref 15, .int 4]) 2 rfl ?_
        obtain ⟨q38, hq38, h⟩ := bd_in h
        refine pmU_C (av := [.ref 15]) (rest := [.int 4]) rfl rfl rfl rfl rfl (L_Re_digit (d + 0) hq38) ?_
        refine pmSeg_U (pc' := 42) (ls' := [some (.ref 15), some (.int v1)]) (st' := [.int (4 + q38.1)]) 1 rfl ?_
        cases h
        exact pmU_T rfl rfl rfl rfl rfl rfl
  · refine pmSeg_U (pc' := 12) (ls' := [some (.ref 15), some (.int v1)]) (st' := [.int 42, .ref 15]) 2 rfl ?_
    obtain ⟨q12, hq12, h⟩ := bd_in h
    refine pmU_C (av := [.ref 15, .int 42]) (rest := []) rfl rfl rfl rfl rfl (L_Re_take (d + 0) hq12) ?_
    refine pmSeg_U (pc' := 16) (ls' := [some (.ref 15), some (.int v1)]) (st' := [.int (-1)]) 1 rfl ?_
    cases h
    exact pmU_T rfl rfl rfl rfl rfl rfl
theorem L_Re_read_b133 {S : pmS} (d : Nat)     {σ τ : Mem} {z : Int32 × Mem}  (h : Re_read_b133 σ = some z) : pmU S (d + 69) 39 133 [some (.ref 15), none] [] (shH σ τ) (some (.int z.1)) (shH z.2 τ) := by
  unfold Re_read_b133 at h
  obtain ⟨g1, h⟩ := gd_in h
  refine pmSeg_U (pc' := 134) (ls' := [some (.ref 15), none]) (st' := [.ref 15]) 1 rfl ?_
  refine pu_get rfl rfl rfl (shp_mX rfl (by decide) (po_nn g1)) ?_
  refine pmSeg_U (pc' := 141) (ls' := [some (.ref 15), none]) (st' := [.int (σ 15 5), .ref (ix (σ 15 2))]) 2 rfl ?_
  refine pu_put rfl rfl (Po_k g1) rfl rfl (shp_pX (Po_f2 g1) (Po_lt g1)) ?_
  refine pmSeg_U (pc' := 148) (ls' := [some (.ref 15), none]) (st' := [.int ((mput σ (ix (σ 15 2)) 2 (σ 15 5)) 15 4)]) 2 rfl ?_
  cases h
  exact pmU_T rfl rfl rfl rfl rfl rfl
theorem L_Re_read_b72 {S : pmS} (d : Nat)     {σ τ : Mem} {z : Int32 × Mem}  (h : Re_read_b72 σ = some z) : pmU S (d + 69) 39 72 [some (.ref 15), none] [] (shH σ τ) (some (.int z.1)) (shH z.2 τ) := by
  unfold Re_read_b72 at h
  obtain ⟨g1, h⟩ := gd_in h
  refine pmSeg_U (pc' := 73) (ls' := [some (.ref 15), none]) (st' := [.ref 15]) 1 rfl ?_
  refine pu_get rfl rfl rfl (shp_mX rfl (by decide) (po_nn g1)) ?_
  refine pmSeg_U (pc' := 78) (ls' := [some (.ref 15), none]) (st' := [.int 1, .ref 15, .ref (ix (σ 15 2))]) 2 rfl ?_
  obtain ⟨q78, hq78, h⟩ := bd_in h
  refine pmU_C (av := [.ref 15, .int 1]) (rest := [.ref (ix (σ 15 2))]) rfl rfl rfl rfl rfl (L_Re_scope (d + 66) hq78) ?_
  refine pmSeg_U (pc' := 81) (ls' := [some (.ref 15), none]) (st' := [.int q78.1, .ref (ix (σ 15 2))]) 0 rfl ?_
  refine pu_put rfl rfl (Po_k g1) rfl rfl (shp_pX (Po_f4 g1) (Po_lt g1)) ?_
  obtain ⟨g2, h⟩ := gd_in h
  refine pmSeg_U (pc' := 85) (ls' := [some (.ref 15), none]) (st' := [.ref 15]) 1 rfl ?_
  refine pu_get rfl rfl rfl (shp_mX rfl (by decide) (po_nn g2)) ?_
  refine pmSeg_U (pc' := 90) (ls' := [some (.ref 15), none]) (st' := [.int 0, .ref 15, .ref (ix ((mput q78.2 (ix (σ 15 2)) 4 q78.1) 15 2))]) 2 rfl ?_
  obtain ⟨q90, hq90, h⟩ := bd_in h
  refine pmU_C (av := [.ref 15, .int 0]) (rest := [.ref (ix ((mput q78.2 (ix (σ 15 2)) 4 q78.1) 15 2))]) rfl rfl rfl rfl rfl (L_Re_scope (d + 66) hq90) ?_
  refine pmSeg_U (pc' := 93) (ls' := [some (.ref 15), none]) (st' := [.int q90.1, .ref (ix ((mput q78.2 (ix (σ 15 2)) 4 q78.1) 15 2))]) 0 rfl ?_
  refine pu_put rfl rfl (Po_k g2) rfl rfl (shp_pX (Po_f5 g2) (Po_lt g2)) ?_
  obtain ⟨g3, h⟩ := gd_in h
  refine pmSeg_U (pc' := 97) (ls' := [some (.ref 15), none]) (st' := [.ref 15]) 1 rfl ?_
  refine pu_get rfl rfl rfl (shp_mX rfl (by decide) (po_nn g3)) ?_
  refine pmSeg_U (pc' := 102) (ls' := [some (.ref 15), none]) (st' := [.int 1, .ref 15, .ref (ix ((mput q90.2 (ix ((mput q78.2 (ix (σ 15 2)) 4 q78.1) 15 2)) 5 q90.1) 15 2))]) 2 rfl ?_
  obtain ⟨q102, hq102, h⟩ := bd_in h
  refine pmU_C (av := [.ref 15, .int 1]) (rest := [.ref (ix ((mput q90.2 (ix ((mput q78.2 (ix (σ 15 2)) 4 q78.1) 15 2)) 5 q90.1) 15 2))]) rfl rfl rfl rfl rfl (L_Re_scope (d + 66) hq102) ?_
  refine pmSeg_U (pc' := 105) (ls' := [some (.ref 15), none]) (st' := [.int q102.1, .ref (ix ((mput q90.2 (ix ((mput q78.2 (ix (σ 15 2)) 4 q78.1) 15 2)) 5 q90.1) 15 2))]) 0 rfl ?_
  refine pu_put rfl rfl (Po_k g3) rfl rfl (shp_pX (Po_f6 g3) (Po_lt g3)) ?_
  refine pmSeg_U (pc' := 109) (ls' := [some (.ref 15), none]) (st' := [.ref 15]) 1 rfl ?_
  obtain ⟨q109, hq109, h⟩ := bd_in h
  refine pmU_C (av := [.ref 15]) (rest := []) rfl rfl rfl rfl rfl (L_Re_conditions (d + 0) hq109) ?_
  refine pmSeg_U (pc' := 115) (ls' := [some (.ref 15), none]) (st' := [.int 59, .ref 15]) 2 rfl ?_
  obtain ⟨q115, hq115, h⟩ := bd_in h
  refine pmU_C (av := [.ref 15, .int 59]) (rest := []) rfl rfl rfl rfl rfl (L_Re_take (d + 67) hq115) ?_
  refine pmSeg_U (pc' := 126) (ls' := [some (.ref 15), none]) (st' := [.int (q115 15 1), .int (q115 15 3)]) 4 rfl ?_
  refine pu_icmpP (tg := 133) h rfl rfl rfl (fun h => ?_) (fun h => ?_)
  · refine pmSeg_U (pc' := 133) (ls' := [some (.ref 15), none]) (st' := []) 0 rfl ?_
    exact L_Re_read_b133 d h
  · refine pmSeg_U (pc' := 130) (ls' := [some (.ref 15), none]) (st' := [.ref 15]) 1 rfl ?_
    obtain ⟨q130, hq130, h⟩ := bd_in h
    refine pmU_C (av := [.ref 15]) (rest := []) rfl rfl rfl rfl rfl (L_Re_refuseByte (d + 68) hq130) ?_
    refine pmSeg_U (pc' := 133) (ls' := [some (.ref 15), none]) (st' := []) 0 rfl ?_
    exact L_Re_read_b133 d h
theorem L_Re_read_b45 {S : pmS} (d : Nat)    {s0 : Nat} {s1 : Int32} {σ τ : Mem} {z : Int32 × Mem} (hs0 : isPo s0) (h : Re_read_b45 s0 s1 σ = some z) : pmU S (d + 69) 39 45 [some (.ref 15), none] [.int s1, .ref s0] (shH σ τ) (some (.int z.1)) (shH z.2 τ) := by
  unfold Re_read_b45 at h
  obtain ⟨g1, h⟩ := gd_in h
  refine pmSeg_U (pc' := 45) (ls' := [some (.ref 15), none]) (st' := [.int s1, .ref s0]) 0 rfl ?_
  refine pu_put rfl rfl (Po_k hs0) g1 rfl (shp_pX (Po_f0 hs0) (Po_lt hs0)) ?_
  refine pmSeg_U (pc' := 49) (ls' := [some (.ref 15), none]) (st' := [.ref 15]) 1 rfl ?_
  obtain ⟨q49, hq49, h⟩ := bd_in h
  refine pmU_C (av := [.ref 15]) (rest := []) rfl rfl rfl rfl rfl (L_Re_next (d + 68) hq49) ?_
  refine pmSeg_U (pc' := 54) (ls' := [some (.ref 15), none]) (st' := [.int 45, .int q49]) 1 rfl ?_
  refine pu_icmpP (tg := 66) h rfl rfl rfl (fun h => ?_) (fun h => ?_)
  · refine pmSeg_U (pc' := 69) (ls' := [some (.ref 15), none]) (st' := [.int 43, .ref 15]) 2 rfl ?_
    obtain ⟨q69, hq69, h⟩ := bd_in h
    refine pmU_C (av := [.ref 15, .int 43]) (rest := []) rfl rfl rfl rfl rfl (L_Re_take (d + 67) hq69) ?_
    refine pmSeg_U (pc' := 72) (ls' := [some (.ref 15), none]) (st' := []) 0 rfl ?_
    exact L_Re_read_b72 d h
  · refine pmSeg_U (pc' := 60) (ls' := [some (.ref 15), none]) (st' := [.int 45, .ref 15]) 2 rfl ?_
    obtain ⟨q60, hq60, h⟩ := bd_in h
    refine pmU_C (av := [.ref 15, .int 45]) (rest := []) rfl rfl rfl rfl rfl (L_Re_take (d + 67) hq60) ?_
    refine pmSeg_U (pc' := 72) (ls' := [some (.ref 15), none]) (st' := []) 1 rfl ?_
    exact L_Re_read_b72 d h
theorem L_Re_read {S : pmS} (d : Nat) {v1 : Nat} {σ τ : Mem} {z : Int32 × Mem} (hv1 : isPo v1) (h : Re_read v1 σ = some z) : pmX S (d + 70) 39 [.ref 15, .ref v1] (shH σ τ) (some (.int z.1)) (shH z.2 τ) := by
  unfold Re_read at h
  refine pmU_X rfl ?_
  refine pmSeg_U (pc' := 2) (ls' := [some (.ref 15), some (.ref v1)]) (st' := [.ref v1, .ref 15]) 2 rfl ?_
  refine pu_put rfl rfl rfl rfl rfl (shp_pR rfl (by decide) (Po_31 hv1)) ?_
  obtain ⟨g1, h⟩ := gd_in h
  refine pmSeg_U (pc' := 6) (ls' := [some (.ref 15), some (.ref v1)]) (st' := [.ref 15]) 1 rfl ?_
  refine pu_get rfl rfl rfl (shp_mX rfl (by decide) (po_nn g1)) ?_
  refine pmSeg_U (pc' := 9) (ls' := [some (.ref 15), some (.ref v1)]) (st' := [.ref (ix ((mput σ 15 2 (nI v1)) 15 2))]) 0 rfl ?_
  obtain ⟨q9, hq9, h⟩ := bd_in h
  refine pmU_C (av := [.ref (ix ((mput σ 15 2 (nI v1)) 15 2))]) (rest := []) rfl rfl rfl rfl (pmC_virt rfl rfl rfl (Po_k g1)) (L_Po_begin (d + 68) g1 hq9) ?_
  refine pmSeg_U (pc' := 14) (ls' := [some (.ref 15), some (.ref v1)]) (st' := [.int 0, .ref 15]) 2 rfl ?_
  refine pu_put rfl rfl rfl rfl rfl (shp_pX rfl (by decide)) ?_
  refine pmSeg_U (pc' := 19) (ls' := [some (.ref 15), some (.ref v1)]) (st' := [.int 0, .ref 15]) 2 rfl ?_
  refine pu_put rfl rfl rfl rfl rfl (shp_pX rfl (by decide)) ?_
  refine pmSeg_U (pc' := 24) (ls' := [some (.ref 15), some (.ref v1)]) (st' := [.int 0, .ref 15]) 2 rfl ?_
  refine pu_put rfl rfl rfl rfl rfl (shp_pX rfl (by decide)) ?_
  obtain ⟨g2, h⟩ := gd_in h
  refine pmSeg_U (pc' := 28) (ls' := [some (.ref 15), some (.ref v1)]) (st' := [.ref 15]) 1 rfl ?_
  refine pu_get rfl rfl rfl (shp_mX rfl (by decide) (po_nn g2)) ?_
  refine pmSeg_U (pc' := 32) (ls' := [some (.ref 15), some (.ref v1)]) (st' := [.ref 15, .ref (ix ((mput (mput (mput q9 15 3 0) 15 4 0) 15 5 0) 15 2))]) 1 rfl ?_
  obtain ⟨q32, hq32, h⟩ := bd_in h
  refine pmU_C (av := [.ref 15]) (rest := [.ref (ix ((mput (mput (mput q9 15 3 0) 15 4 0) 15 5 0) 15 2))]) rfl rfl rfl rfl rfl (L_Re_next (d + 68) hq32) ?_
  refine pmSeg_U (pc' := 37) (ls' := [some (.ref 15), some (.ref v1)]) (st' := [.int 43, .int q32, .ref (ix ((mput (mput (mput q9 15 3 0) 15 4 0) 15 5 0) 15 2))]) 1 rfl ?_
  refine pu_icmpP (tg := 44) h rfl rfl rfl (fun h => ?_) (fun h => ?_)
  · refine pmSeg_U (pc' := 45) (ls' := [some (.ref 15), some (.ref v1)]) (st' := [.int 0, .ref (ix ((mput (mput (mput q9 15 3 0) 15 4 0) 15 5 0) 15 2))]) 1 rfl ?_
    refine pmU_le (a := [some (.ref 15), none]) (le_s (le_v rfl le_nil)) ?_
    exact L_Re_read_b45 d g2 h
  · refine pmSeg_U (pc' := 45) (ls' := [some (.ref 15), some (.ref v1)]) (st' := [.int 1, .ref (ix ((mput (mput (mput q9 15 3 0) 15 4 0) 15 5 0) 15 2))]) 2 rfl ?_
    refine pmU_le (a := [some (.ref 15), none]) (le_s (le_v rfl le_nil)) ?_
    exact L_Re_read_b45 d g2 h
theorem L_Ps_add {S : pmS} (d : Nat) {v1 : Int32} {σ τ : Mem} {z : Int32 × Mem}  (h : Ps_add v1 σ = some z) : pmX S (d + 71) 35 [.ref 0, .int v1] (shH σ τ) (some (.int z.1)) (shH z.2 τ) := by
  unfold Ps_add at h
  refine pmU_X rfl ?_
  refine pmSeg_U (pc' := 1) (ls' := [some (.ref 0), some (.int v1), none, none]) (st' := [.int v1]) 1 rfl ?_
  refine pmU_C (av := [.int v1]) (rest := []) rfl rfl rfl rfl rfl (L_Ps_isSet (d + 69)) ?_
  refine pmSeg_U (pc' := 4) (ls' := [some (.ref 0), some (.int v1), none, none]) (st' := [.int (Ps_isSet v1)]) 0 rfl ?_
  refine pu_ifP (tg := 10) h rfl rfl rfl (fun h => ?_) (fun h => ?_)
  · refine pmSeg_U (pc' := 12) (ls' := [some (.ref 0), some (.int v1), none, none]) (st' := [.int v1, .ref 0]) 2 rfl ?_
    obtain ⟨q12, hq12, h⟩ := bd_in h
    have K12 := K_Ps_chosen hq12
    refine pmU_C (av := [.ref 0, .int v1]) (rest := []) rfl rfl rfl rfl rfl (L_Ps_chosen (d + 69) hq12) ?_
    refine pmSeg_U (pc' := 21) (ls' := [some (.ref 0), some (.int v1), some (.ref q12), none]) (st' := [.ref q12, .ref 15]) 4 rfl ?_
    obtain ⟨q21, hq21, h⟩ := bd_in h
    have K21 := K_Se_spare K12 hq21
    refine pmU_C (av := [.ref q12]) (rest := [.ref 15]) rfl rfl rfl rfl (pmC_virt rfl rfl rfl (Se_k K12)) (L_Se_spare (d + 69) K12 hq21) ?_
    refine pmSeg_U (pc' := 24) (ls' := [some (.ref 0), some (.int v1), some (.ref q12), none]) (st' := [.ref q21, .ref 15]) 0 rfl ?_
    obtain ⟨q24, hq24, h⟩ := bd_in h
    refine pmU_C (av := [.ref 15, .ref q21]) (rest := []) rfl rfl rfl rfl rfl (L_Re_read (d + 0) K21 hq24) ?_
    refine pmSeg_U (pc' := 29) (ls' := [some (.ref 0), some (.int v1), some (.ref q12), some (.int q24.1)]) (st' := [.int q24.1]) 2 rfl ?_
    refine pu_ifP (tg := 34) h rfl rfl rfl (fun h => ?_) (fun h => ?_)
    · refine pmSeg_U (pc' := 35) (ls' := [some (.ref 0), some (.int v1), some (.ref q12), some (.int q24.1)]) (st' := [.ref q12]) 1 rfl ?_
      obtain ⟨q35, hq35, h⟩ := bd_in h
      refine pmU_C (av := [.ref q12]) (rest := []) rfl rfl rfl rfl (pmC_virt rfl rfl rfl (Se_k K12)) (L_Se_count (d + 69) K12 hq35) ?_
      refine pmSeg_U (pc' := 40) (ls' := [some (.ref 0), some (.int v1), some (.ref q12), some (.int q24.1)]) (st' := [.int 8, .int q35]) 1 rfl ?_
      refine pu_icmpP (tg := 48) h rfl rfl rfl (fun h => ?_) (fun h => ?_)
      · refine pmSeg_U (pc' := 49) (ls' := [some (.ref 0), some (.int v1), some (.ref q12), some (.int q24.1)]) (st' := [.ref q12]) 1 rfl ?_
        obtain ⟨q49, hq49, h⟩ := bd_in h
        refine pmU_C (av := [.ref q12]) (rest := []) rfl rfl rfl rfl (pmC_virt rfl rfl rfl (Se_k K12)) (L_Se_keepSpare (d + 69) K12 hq49) ?_
        refine pmSeg_U (pc' := 52) (ls' := [some (.ref 0), some (.int v1), some (.ref q12), some (.int q24.1)]) (st' := [.int q49.1]) 0 rfl ?_
        cases h
        exact pmU_T rfl rfl rfl rfl rfl rfl
      · refine pmSeg_U (pc' := 52) (ls' := [some (.ref 0), some (.int v1), some (.ref q12), some (.int q24.1)]) (st' := [.int (-3)]) 2 rfl ?_
        cases h
        exact pmU_T rfl rfl rfl rfl rfl rfl
    · refine pmSeg_U (pc' := 33) (ls' := [some (.ref 0), some (.int v1), some (.ref q12), some (.int q24.1)]) (st' := [.int q24.1]) 1 rfl ?_
      cases h
      exact pmU_T rfl rfl rfl rfl rfl rfl
  · refine pmSeg_U (pc' := 9) (ls' := [some (.ref 0), some (.int v1), none, none]) (st' := [.int (-2)]) 1 rfl ?_
    cases h
    exact pmU_T rfl rfl rfl rfl rfl rfl
