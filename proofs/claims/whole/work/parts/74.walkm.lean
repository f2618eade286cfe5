theorem L_Mo_work_b46 {S : pmS} (d : Nat)    {v1 : Int32} {v2 : Int32} {σ τ : Mem} {z : Int32 × Mem}  (h : Mo_work_b46 v1 v2 σ = some z) : pmU S (d + 2) 136 46 [some (.ref 112), some (.int v1), some (.int v2), none, none, none, none, none, none, none] [] (shH τ σ) (some (.int z.1)) (shH τ z.2) := by
  unfold Mo_work_b46 at h
  refine pmSeg_U (pc' := 47) (ls' := [some (.ref 112), some (.int v1), some (.int v2), none, none, none, none, none, none, none]) (st' := [.int 0]) 1 rfl ?_
  exact L_Mo_work_b47 d h
theorem L_Mo_work {S : pmS} (d : Nat) {v1 : Int32} {v2 : Int32} {σ τ : Mem} {z : Int32 × Mem}  (h : Mo_work v1 v2 σ = some z) : pmX S (d + 3) 136 [.ref 112, .int v1, .int v2] (shH τ σ) (some (.int z.1)) (shH τ z.2) := by
  unfold Mo_work at h
  refine pmU_X rfl ?_
  obtain ⟨g1, h⟩ := gd_in h
  refine pmSeg_U (pc' := 8) (ls' := [some (.ref 112), some (.int v1), some (.int v2), none, none, none, none, none, none, none]) (st' := [.int (3 * v1), .ref 120, .ref 112]) 6 rfl ?_
  refine pu_iald rfl rfl g1 (shp_iM (c := 8) rfl) ?_
  refine pmSeg_U (pc' := 10) (ls' := [some (.ref 112), some (.int v1), some (.int v2), none, none, none, none, none, none, none]) (st' := [.int v2, .int (σ 8 (3 * v1).toNatClampNeg), .ref 112]) 1 rfl ?_
  refine pmU_C (av := [.int v2]) (rest := [.int (σ 8 (3 * v1).toNatClampNeg), .ref 112]) rfl rfl rfl rfl rfl (L_Mo_personOf (d + 1)) ?_
  refine pmSeg_U (pc' := 14) (ls' := [some (.ref 112), some (.int v1), some (.int v2), none, none, none, none, none, none, none]) (st' := [.int 0, .int (Mo_personOf v2), .int (σ 8 (3 * v1).toNatClampNeg), .ref 112]) 1 rfl ?_
  obtain ⟨q14, hq14, h⟩ := bd_in h
  refine pmU_C (av := [.ref 112, .int (σ 8 (3 * v1).toNatClampNeg), .int (Mo_personOf v2), .int 0]) (rest := []) rfl rfl rfl rfl rfl (L_Mo_hasScope (d + 0) hq14) ?_
  refine pmSeg_U (pc' := 17) (ls' := [some (.ref 112), some (.int v1), some (.int v2), none, none, none, none, none, none, none]) (st' := [.int q14]) 0 rfl ?_
  refine pu_ifP (tg := 46) h rfl rfl rfl (fun h => ?_) (fun h => ?_)
  · refine pmSeg_U (pc' := 46) (ls' := [some (.ref 112), some (.int v1), some (.int v2), none, none, none, none, none, none, none]) (st' := []) 0 rfl ?_
    exact L_Mo_work_b46 d h
  · obtain ⟨g2, h⟩ := gd_in h
    refine pmSeg_U (pc' := 30) (ls' := [some (.ref 112), some (.int v1), some (.int v2), none, none, none, none, none, none, none]) (st' := [.int ((3 * v1) + 2), .ref 120, .ref 112]) 8 rfl ?_
    refine pu_iald rfl rfl g2 (shp_iM (c := 8) rfl) ?_
    refine pmSeg_U (pc' := 32) (ls' := [some (.ref 112), some (.int v1), some (.int v2), none, none, none, none, none, none, none]) (st' := [.int v2, .int (σ 8 ((3 * v1) + 2).toNatClampNeg), .ref 112]) 1 rfl ?_
    refine pmU_C (av := [.int v2]) (rest := [.int (σ 8 ((3 * v1) + 2).toNatClampNeg), .ref 112]) rfl rfl rfl rfl rfl (L_Mo_thingOf (d + 1)) ?_
    refine pmSeg_U (pc' := 36) (ls' := [some (.ref 112), some (.int v1), some (.int v2), none, none, none, none, none, none, none]) (st' := [.int 2, .int (Mo_thingOf v2), .int (σ 8 ((3 * v1) + 2).toNatClampNeg), .ref 112]) 1 rfl ?_
    obtain ⟨q36, hq36, h⟩ := bd_in h
    refine pmU_C (av := [.ref 112, .int (σ 8 ((3 * v1) + 2).toNatClampNeg), .int (Mo_thingOf v2), .int 2]) (rest := []) rfl rfl rfl rfl rfl (L_Mo_hasScope (d + 0) hq36) ?_
    refine pmSeg_U (pc' := 39) (ls' := [some (.ref 112), some (.int v1), some (.int v2), none, none, none, none, none, none, none]) (st' := [.int q36]) 0 rfl ?_
    refine pu_ifP (tg := 46) h rfl rfl rfl (fun h => ?_) (fun h => ?_)
    · refine pmSeg_U (pc' := 46) (ls' := [some (.ref 112), some (.int v1), some (.int v2), none, none, none, none, none, none, none]) (st' := []) 0 rfl ?_
      exact L_Mo_work_b46 d h
    · refine pmSeg_U (pc' := 47) (ls' := [some (.ref 112), some (.int v1), some (.int v2), none, none, none, none, none, none, none]) (st' := [.int 1]) 2 rfl ?_
      exact L_Mo_work_b47 d h
theorem L_Mo_allowed_b67 {S : pmS} (d : Nat)   {k9 : Int32 → Int32 → Int32 → Int32 → Int32 → Int32 → Mem → Option (Int32 × Mem)} (Hk9 : ∀ {v1 : Int32} {v2 : Int32} {v3 : Int32} {v4 : Int32} {v5 : Int32} {v6 : Int32} {σ τ : Mem} {z : Int32 × Mem}, k9 v1 v2 v3 v4 v5 v6 σ = some z → pmU S (d + 3) 144 9 [some (.ref 112), some (.int v1), some (.int v2), some (.int v3), some (.int v4), some (.int v5), some (.int v6)] [] (shH τ σ) (some (.int z.1)) (shH τ z.2)) {v1 : Int32} {v2 : Int32} {v3 : Int32} {v5 : Int32} {v6 : Int32} {s0 : Int32} {σ τ : Mem} {z : Int32 × Mem}  (h : Mo_allowed_b67 k9 v1 v2 v3 v5 v6 s0 σ = some z) : pmU S (d + 3) 144 67 [some (.ref 112), some (.int v1), some (.int v2), some (.int v3), none, some (.int v5), some (.int v6)] [.int s0] (shH τ σ) (some (.int z.1)) (shH τ z.2) := by
  unfold Mo_allowed_b67 at h
  refine pmSeg_U (pc' := 71) (ls' := [some (.ref 112), some (.int v1), some (.int v2), some (.int v3), some (.int s0), some (.int v5), some (.int v6)]) (st' := [.int v5]) 2 rfl ?_
  refine pu_ifP (tg := 89) h rfl rfl rfl (fun h => ?_) (fun h => ?_)
  · refine pmSeg_U (pc' := 9) (ls' := [some (.ref 112), some (.int v1), some (.int v2), some (.int v3), some (.int s0), some (.int 1), some (.int (v6 + 1))]) (st' := []) 5 rfl ?_
    exact Hk9 h
  · obtain ⟨g1, h⟩ := gd_in h
    refine pmSeg_U (pc' := 85) (ls' := [some (.ref 112), some (.int v1), some (.int v2), some (.int v3), some (.int s0), some (.int v5), some (.int v6)]) (st' := [.int ((8 * v1) + v6), .ref 119]) 7 rfl ?_
    refine pu_bald rfl rfl g1 (shp_iM (c := 7) rfl) ?_
    refine pmSeg_U (pc' := 86) (ls' := [some (.ref 112), some (.int v1), some (.int v2), some (.int v3), some (.int s0), some (.int v5), some (.int v6)]) (st' := [.int (σ 7 ((8 * v1) + v6).toNatClampNeg)]) 0 rfl ?_
    refine pu_ifP (tg := 93) h rfl rfl rfl (fun h => ?_) (fun h => ?_)
    · refine pmSeg_U (pc' := 9) (ls' := [some (.ref 112), some (.int v1), some (.int v2), some (.int v3), some (.int s0), some (.int 0), some (.int (v6 + 1))]) (st' := []) 4 rfl ?_
      exact Hk9 h
    · refine pmSeg_U (pc' := 9) (ls' := [some (.ref 112), some (.int v1), some (.int v2), some (.int v3), some (.int s0), some (.int 1), some (.int (v6 + 1))]) (st' := []) 5 rfl ?_
      exact Hk9 h
theorem L_Mo_allowed_b62 {S : pmS} (d : Nat)   {k9 : Int32 → Int32 → Int32 → Int32 → Int32 → Int32 → Mem → Option (Int32 × Mem)} (Hk9 : ∀ {v1 : Int32} {v2 : Int32} {v3 : Int32} {v4 : Int32} {v5 : Int32} {v6 : Int32} {σ τ : Mem} {z : Int32 × Mem}, k9 v1 v2 v3 v4 v5 v6 σ = some z → pmU S (d + 3) 144 9 [some (.ref 112), some (.int v1), some (.int v2), some (.int v3), some (.int v4), some (.int v5), some (.int v6)] [] (shH τ σ) (some (.int z.1)) (shH τ z.2)) {v1 : Int32} {v2 : Int32} {v3 : Int32} {v5 : Int32} {v6 : Int32} {σ τ : Mem} {z : Int32 × Mem}  (h : Mo_allowed_b62 k9 v1 v2 v3 v5 v6 σ = some z) : pmU S (d + 3) 144 62 [some (.ref 112), some (.int v1), some (.int v2), some (.int v3), none, some (.int v5), some (.int v6)] [] (shH τ σ) (some (.int z.1)) (shH τ z.2) := by
  unfold Mo_allowed_b62 at h
  refine pmSeg_U (pc' := 67) (ls' := [some (.ref 112), some (.int v1), some (.int v2), some (.int v3), none, some (.int v5), some (.int v6)]) (st' := [.int 1]) 2 rfl ?_
  exact L_Mo_allowed_b67 d Hk9 h
theorem L_Mo_allowed_b9 {S : pmS} (d : Nat)    : ∀ (n0 : Nat) {v1 : Int32} {v2 : Int32} {v3 : Int32} {v4 : Int32} {v5 : Int32} {v6 : Int32} {σ τ : Mem} {z : Int32 × Mem}, Mo_allowed_b9 n0 v1 v2 v3 v4 v5 v6 σ = some z → pmU S (d + 3) 144 9 [some (.ref 112), some (.int v1), some (.int v2), some (.int v3), some (.int v4), some (.int v5), some (.int v6)] [] (shH τ σ) (some (.int z.1)) (shH τ z.2) := by
  intro n0
  induction n0 with
  | zero =>
    intro v1 v2 v3 v4 v5 v6 σ τ z  h
    unfold Mo_allowed_b9 at h
    cases h
  | succ n1 ih =>
    intro v1 v2 v3 v4 v5 v6 σ τ z  h
    unfold Mo_allowed_b9 at h
    obtain ⟨g1, h⟩ := gd_in h
    refine pmSeg_U (pc' := 16) (ls' := [some (.ref 112), some (.int v1), some (.int v2), some (.int v3), some (.int v4), some (.int v5), some (.int v6)]) (st' := [.int v1, .ref 118, .int v6]) 4 rfl ?_
    refine pu_iald rfl rfl g1 (shp_iM (c := 6) rfl) ?_
    refine pmSeg_U (pc' := 17) (ls' := [some (.ref 112), some (.int v1), some (.int v2), some (.int v3), some (.int v4), some (.int v5), some (.int v6)]) (st' := [.int (σ 6 v1.toNatClampNeg), .int v6]) 0 rfl ?_
    refine pu_icmpP (tg := 102) h rfl rfl rfl (fun h => ?_) (fun h => ?_)
    · refine pmSeg_U (pc' := 104) (ls' := [some (.ref 112), some (.int v1), some (.int v2), some (.int v3), some (.int v4), some (.int v5), some (.int v6)]) (st' := [.int v4]) 1 rfl ?_
      refine pu_ifP (tg := 116) h rfl rfl rfl (fun h => ?_) (fun h => ?_)
      · refine pmSeg_U (pc' := 117) (ls' := [some (.ref 112), some (.int v1), some (.int v2), some (.int v3), some (.int v4), some (.int v5), some (.int v6)]) (st' := [.int 0]) 1 rfl ?_
        cases h
        exact pmU_T rfl rfl rfl rfl rfl rfl
      · refine pmSeg_U (pc' := 109) (ls' := [some (.ref 112), some (.int v1), some (.int v2), some (.int v3), some (.int v4), some (.int v5), some (.int v6)]) (st' := [.int v5]) 1 rfl ?_
        refine pu_ifP (tg := 116) h rfl rfl rfl (fun h => ?_) (fun h => ?_)
        · refine pmSeg_U (pc' := 117) (ls' := [some (.ref 112), some (.int v1), some (.int v2), some (.int v3), some (.int v4), some (.int v5), some (.int v6)]) (st' := [.int 0]) 1 rfl ?_
          cases h
          exact pmU_T rfl rfl rfl rfl rfl rfl
        · refine pmSeg_U (pc' := 117) (ls' := [some (.ref 112), some (.int v1), some (.int v2), some (.int v3), some (.int v4), some (.int v5), some (.int v6)]) (st' := [.int 1]) 2 rfl ?_
          cases h
          exact pmU_T rfl rfl rfl rfl rfl rfl
    · refine pmSeg_U (pc' := 23) (ls' := [some (.ref 112), some (.int v1), some (.int v2), some (.int v3), some (.int v4), some (.int v5), some (.int v6)]) (st' := [.int v3, .int v6]) 2 rfl ?_
      refine pu_icmpP (tg := 96) h rfl rfl rfl (fun h => ?_) (fun h => ?_)
      · refine pmSeg_U (pc' := 9) (ls' := [some (.ref 112), some (.int v1), some (.int v2), some (.int v3), some (.int v4), some (.int v5), some (.int (v6 + 1))]) (st' := []) 2 rfl ?_
        exact ih h
      · refine pmSeg_U (pc' := 35) (ls' := [some (.ref 112), some (.int v1), some (.int v2), some (.int v3), some (.int v4), some (.int v5), some (.int v6)]) (st' := [.int v2, .int ((8 * v1) + v6), .ref 112]) 7 rfl ?_
        obtain ⟨q35, hq35, h⟩ := bd_in h
        refine pmU_C (av := [.ref 112, .int ((8 * v1) + v6), .int v2]) (rest := []) rfl rfl rfl rfl rfl (L_Mo_work (d + 0) hq35) ?_
        refine pmSeg_U (pc' := 39) (ls' := [some (.ref 112), some (.int v1), some (.int v2), some (.int v3), some (.int v4), some (.int v5), some (.int v6)]) (st' := [.int 1, .int q35.1]) 1 rfl ?_
        refine pu_icmpP (tg := 96) h rfl rfl rfl (fun h => ?_) (fun h => ?_)
        · refine pmSeg_U (pc' := 9) (ls' := [some (.ref 112), some (.int v1), some (.int v2), some (.int v3), some (.int v4), some (.int v5), some (.int (v6 + 1))]) (st' := []) 2 rfl ?_
          exact ih h
        · refine pmSeg_U (pc' := 44) (ls' := [some (.ref 112), some (.int v1), some (.int v2), some (.int v3), some (.int v4), some (.int v5), some (.int v6)]) (st' := [.int v4]) 1 rfl ?_
          refine pu_ifP (tg := 62) h rfl rfl rfl (fun h => ?_) (fun h => ?_)
          · refine pmSeg_U (pc' := 62) (ls' := [some (.ref 112), some (.int v1), some (.int v2), some (.int v3), some (.int v4), some (.int v5), some (.int v6)]) (st' := []) 0 rfl ?_
            refine pmU_le (a := [some (.ref 112), some (.int v1), some (.int v2), some (.int v3), none, some (.int v5), some (.int v6)]) (le_s (le_s (le_s (le_s (le_v rfl (le_s (le_s le_nil))))))) ?_
            exact L_Mo_allowed_b62 d ih h
          · obtain ⟨g2, h⟩ := gd_in h
            refine pmSeg_U (pc' := 58) (ls' := [some (.ref 112), some (.int v1), some (.int v2), some (.int v3), some (.int v4), some (.int v5), some (.int v6)]) (st' := [.int ((8 * v1) + v6), .ref 119]) 7 rfl ?_
            refine pu_bald rfl rfl g2 (shp_iM (c := 7) rfl) ?_
            refine pmSeg_U (pc' := 59) (ls' := [some (.ref 112), some (.int v1), some (.int v2), some (.int v3), some (.int v4), some (.int v5), some (.int v6)]) (st' := [.int (q35.2 7 ((8 * v1) + v6).toNatClampNeg)]) 0 rfl ?_
            refine pu_ifP (tg := 66) h rfl rfl rfl (fun h => ?_) (fun h => ?_)
            · refine pmSeg_U (pc' := 67) (ls' := [some (.ref 112), some (.int v1), some (.int v2), some (.int v3), some (.int v4), some (.int v5), some (.int v6)]) (st' := [.int 0]) 1 rfl ?_
              refine pmU_le (a := [some (.ref 112), some (.int v1), some (.int v2), some (.int v3), none, some (.int v5), some (.int v6)]) (le_s (le_s (le_s (le_s (le_v rfl (le_s (le_s le_nil))))))) ?_
              exact L_Mo_allowed_b67 d ih h
            · refine pmSeg_U (pc' := 62) (ls' := [some (.ref 112), some (.int v1), some (.int v2), some (.int v3), some (.int v4), some (.int v5), some (.int v6)]) (st' := []) 0 rfl ?_
              refine pmU_le (a := [some (.ref 112), some (.int v1), some (.int v2), some (.int v3), none, some (.int v5), some (.int v6)]) (le_s (le_s (le_s (le_s (le_v rfl (le_s (le_s le_nil))))))) ?_
              exact L_Mo_allowed_b62 d ih h
theorem L_Mo_allowed {S : pmS} (d : Nat) {v1 : Int32} {v2 : Int32} {v3 : Int32} {σ τ : Mem} {z : Int32 × Mem}  (h : Mo_allowed v1 v2 v3 σ = some z) : pmX S (d + 4) 144 [.ref 112, .int v1, .int v2, .int v3] (shH τ σ) (some (.int z.1)) (shH τ z.2) := by
  unfold Mo_allowed at h
  refine pmU_X rfl ?_
  refine pmSeg_U (pc' := 9) (ls' := [some (.ref 112), some (.int v1), some (.int v2), some (.int v3), some (.int 0), some (.int 0), some (.int 0)]) (st' := []) 6 rfl ?_
  exact L_Mo_allowed_b9 d FU h
theorem L_Mo_policy_b119 {S : pmS} (d : Nat)   {k93 : Int32 → Int32 → Int32 → Int32 → Mem → Option (Int32 × Mem)} (Hk93 : ∀ {v3 : Int32} {v4 : Int32} {v5 : Int32} {v6 : Int32} {σ τ : Mem} {z : Int32 × Mem}, k93 v3 v4 v5 v6 σ = some z → pmU S (d + 3) 135 93 [some (.ref 112), none, none, some (.int v3), some (.int v4), some (.int v5), some (.int v6)] [] (shH τ σ) (some (.int z.1)) (shH τ z.2)) {v3 : Int32} {v4 : Int32} {v5 : Int32} {v6 : Int32} {s0 : Int32} {s1 : Int32} {σ τ : Mem} {z : Int32 × Mem}  (h : Mo_policy_b119 k93 v3 v4 v5 v6 s0 s1 σ = some z) : pmU S (d + 3) 135 119 [some (.ref 112), none, none, some (.int v3), some (.int v4), some (.int v5), some (.int v6)] [.int s1, .int s0] (shH τ σ) (some (.int z.1)) (shH τ z.2) := by
  unfold Mo_policy_b119 at h
  refine pmSeg_U (pc' := 119) (ls' := [some (.ref 112), none, none, some (.int v3), some (.int v4), some (.int v5), some (.int v6)]) (st' := [.int s1, .int s0]) 0 rfl ?_
  refine pu_icmpP (tg := 129) h rfl rfl rfl (fun h => ?_) (fun h => ?_)
  · refine pmSeg_U (pc' := 93) (ls' := [some (.ref 112), none, none, some (.int v3), some (.int v4), some (.int v5), some (.int (v6 + 1))]) (st' := []) 4 rfl ?_
    exact Hk93 h
  · refine pmSeg_U (pc' := 93) (ls' := [some (.ref 112), none, none, some (.int v3), some (.int v4), some (.int (v5 + 1)), some (.int (v6 + 1))]) (st' := []) 7 rfl ?_
    exact Hk93 h
theorem L_Mo_policy_b93 {S : pmS} (d : Nat)    : ∀ (n0 : Nat) {v3 : Int32} {v4 : Int32} {v5 : Int32} {v6 : Int32} {σ τ : Mem} {z : Int32 × Mem}, Mo_policy_b93 n0 v3 v4 v5 v6 σ = some z → pmU S (d + 3) 135 93 [some (.ref 112), none, none, some (.int v3), some (.int v4), some (.int v5), some (.int v6)] [] (shH τ σ) (some (.int z.1)) (shH τ z.2) := by
  intro n0
  induction n0 with
  | zero =>
    intro v3 v4 v5 v6 σ τ z  h
    unfold Mo_policy_b93 at h
    cases h
  | succ n1 ih =>
    intro v3 v4 v5 v6 σ τ z  h
    unfold Mo_policy_b93 at h
    refine pmSeg_U (pc' := 98) (ls' := [some (.ref 112), none, none, some (.int v3), some (.int v4), some (.int v5), some (.int v6)]) (st' := [.int 2048, .int v6]) 2 rfl ?_
    refine pu_icmpP (tg := 139) h rfl rfl rfl (fun h => ?_) (fun h => ?_)
    · refine pmSeg_U (pc' := 141) (ls' := [some (.ref 112), none, none, some (.int v3), some (.int v4), some (.int v5), some (.int v6)]) (st' := [.int v5]) 1 rfl ?_
      cases h
      exact pmU_T rfl rfl rfl rfl rfl rfl
    · refine pmSeg_U (pc' := 106) (ls' := [some (.ref 112), none, none, some (.int v3), some (.int v4), some (.int v5), some (.int v6)]) (st' := [.int v6, .int v4, .ref 112]) 3 rfl ?_
      obtain ⟨q106, hq106, h⟩ := bd_in h
      refine pmU_C (av := [.ref 112, .int v4, .int v6]) (rest := []) rfl rfl rfl rfl rfl (L_Mo_work (d + 0) hq106) ?_
      refine pmSeg_U (pc' := 111) (ls' := [some (.ref 112), none, none, some (.int v3), some (.int v4), some (.int v5), some (.int v6)]) (st' := [.int 3, .int v3, .int q106.1]) 2 rfl ?_
      refine pu_icmpP (tg := 118) h rfl rfl rfl (fun h => ?_) (fun h => ?_)
      · refine pmSeg_U (pc' := 119) (ls' := [some (.ref 112), none, none, some (.int v3), some (.int v4), some (.int v5), some (.int v6)]) (st' := [.int (-1), .int q106.1]) 1 rfl ?_
        exact L_Mo_policy_b119 d ih h
      · refine pmSeg_U (pc' := 119) (ls' := [some (.ref 112), none, none, some (.int v3), some (.int v4), some (.int v5), some (.int v6)]) (st' := [.int 1, .int q106.1]) 2 rfl ?_
        exact L_Mo_policy_b119 d ih h
theorem L_Mo_policy {S : pmS} (d : Nat) {v1 : Int32} {v2 : Int32} {v3 : Int32} {σ τ : Mem} {z : Int32 × Mem}  (h : Mo_policy v1 v2 v3 σ = some z) : pmX S (d + 4) 135 [.ref 112, .int v1, .int v2, .int v3] (shH τ σ) (some (.int z.1)) (shH τ z.2) := by
  unfold Mo_policy at h
  refine pmU_X rfl ?_
  refine pmSeg_U (pc' := 3) (ls' := [some (.ref 112), some (.int v1), some (.int v2), some (.int v3), none, none, none]) (st' := [.int v2, .int v1, .ref 112]) 3 rfl ?_
  obtain ⟨q3, hq3, h⟩ := bd_in h
  refine pmU_C (av := [.ref 112, .int v1, .int v2]) (rest := []) rfl rfl rfl rfl rfl (L_Mo_isPolicy (d + 1) hq3) ?_
  refine pmSeg_U (pc' := 6) (ls' := [some (.ref 112), some (.int v1), some (.int v2), some (.int v3), none, none, none]) (st' := [.int q3]) 0 rfl ?_
  refine pu_ifP (tg := 18) h rfl rfl rfl (fun h => ?_) (fun h => ?_)
  · refine pmSeg_U (pc' := 20) (ls' := [some (.ref 112), some (.int v1), some (.int v2), some (.int v3), none, none, none]) (st' := [.int (-2)]) 1 rfl ?_
    cases h
    exact pmU_T rfl rfl rfl rfl rfl rfl
  · refine pmSeg_U (pc' := 10) (ls' := [some (.ref 112), some (.int v1), some (.int v2), some (.int v3), none, none, none]) (st' := [.int v3]) 1 rfl ?_
    refine pu_ifP (tg := 18) h rfl rfl rfl (fun h => ?_) (fun h => ?_)
    · refine pmSeg_U (pc' := 20) (ls' := [some (.ref 112), some (.int v1), some (.int v2), some (.int v3), none, none, none]) (st' := [.int (-2)]) 1 rfl ?_
      cases h
      exact pmU_T rfl rfl rfl rfl rfl rfl
    · refine pmSeg_U (pc' := 15) (ls' := [some (.ref 112), some (.int v1), some (.int v2), some (.int v3), none, none, none]) (st' := [.int 4, .int v3]) 2 rfl ?_
      refine pu_icmpP (tg := 21) h rfl rfl rfl (fun h => ?_) (fun h => ?_)
      · refine pmSeg_U (pc' := 31) (ls' := [some (.ref 112), some (.int v1), some (.int v2), some (.int v3), some (.int ((8 * v1) + v2)), none, none]) (st' := [.int 3, .int v3]) 8 rfl ?_
        refine pu_icmpP (tg := 87) h rfl rfl rfl (fun h => ?_) (fun h => ?_)
        · refine pmSeg_U (pc' := 93) (ls' := [some (.ref 112), some (.int v1), some (.int v2), some (.int v3), some (.int ((8 * v1) + v2)), some (.int 0), some (.int 0)]) (st' := []) 4 rfl ?_
          refine pmU_le (a := [some (.ref 112), none, none, some (.int v3), some (.int ((8 * v1) + v2)), some (.int 0), some (.int 0)]) (le_s (le_v rfl (le_v rfl (le_s (le_s (le_s (le_s le_nil))))))) ?_
          exact L_Mo_policy_b93 d FU h
        · refine pmSeg_U (pc' := 35) (ls' := [some (.ref 112), some (.int v1), some (.int v2), some (.int v3), some (.int ((8 * v1) + v2)), none, none]) (st' := [.int v3]) 1 rfl ?_
          refine pu_ifP (tg := 56) h rfl rfl rfl (fun h => ?_) (fun h => ?_)
          · refine pmSeg_U (pc' := 58) (ls' := [some (.ref 112), some (.int v1), some (.int v2), some (.int v3), some (.int ((8 * v1) + v2)), none, none]) (st' := [.int 1, .int v3]) 2 rfl ?_
            refine pu_icmpP (tg := 71) h rfl rfl rfl (fun h => ?_) (fun h => ?_)
            · obtain ⟨g1, h⟩ := gd_in h
              refine pmSeg_U (pc' := 77) (ls' := [some (.ref 112), some (.int v1), some (.int v2), some (.int v3), some (.int ((8 * v1) + v2)), none, none]) (st' := [.int ((8 * v1) + v2), .ref 122]) 3 rfl ?_
              refine pu_bald rfl rfl g1 (shp_iM (c := 10) rfl) ?_
              refine pmSeg_U (pc' := 78) (ls' := [some (.ref 112), some (.int v1), some (.int v2), some (.int v3), some (.int ((8 * v1) + v2)), none, none]) (st' := [.int (σ 10 ((8 * v1) + v2).toNatClampNeg)]) 0 rfl ?_
              refine pu_ifP (tg := 85) h rfl rfl rfl (fun h => ?_) (fun h => ?_)
              · refine pmSeg_U (pc' := 86) (ls' := [some (.ref 112), some (.int v1), some (.int v2), some (.int v3), some (.int ((8 * v1) + v2)), none, none]) (st' := [.int 0]) 1 rfl ?_
                cases h
                exact pmU_T rfl rfl rfl rfl rfl rfl
              · refine pmSeg_U (pc' := 86) (ls' := [some (.ref 112), some (.int v1), some (.int v2), some (.int v3), some (.int ((8 * v1) + v2)), none, none]) (st' := [.int 1]) 2 rfl ?_
                cases h
                exact pmU_T rfl rfl rfl rfl rfl rfl
            · obtain ⟨g2, h⟩ := gd_in h
              refine pmSeg_U (pc' := 67) (ls' := [some (.ref 112), some (.int v1), some (.int v2), some (.int v3), some (.int ((8 * v1) + v2)), none, none]) (st' := [.int ((8 * v1) + v2), .ref 121]) 3 rfl ?_
              refine pu_iald rfl rfl g2 (shp_iM (c := 9) rfl) ?_
              refine pmSeg_U (pc' := 86) (ls' := [some (.ref 112), some (.int v1), some (.int v2), some (.int v3), some (.int ((8 * v1) + v2)), none, none]) (st' := [.int (σ 9 ((8 * v1) + v2).toNatClampNeg)]) 1 rfl ?_
              cases h
              exact pmU_T rfl rfl rfl rfl rfl rfl
          · obtain ⟨g3, h⟩ := gd_in h
            refine pmSeg_U (pc' := 44) (ls' := [some (.ref 112), some (.int v1), some (.int v2), some (.int v3), some (.int ((8 * v1) + v2)), none, none]) (st' := [.int ((8 * v1) + v2), .ref 119]) 3 rfl ?_
            refine pu_bald rfl rfl g3 (shp_iM (c := 7) rfl) ?_
            refine pmSeg_U (pc' := 45) (ls' := [some (.ref 112), some (.int v1), some (.int v2), some (.int v3), some (.int ((8 * v1) + v2)), none, none]) (st' := [.int (σ 7 ((8 * v1) + v2).toNatClampNeg)]) 0 rfl ?_
            refine pu_ifP (tg := 52) h rfl rfl rfl (fun h => ?_) (fun h => ?_)
            · refine pmSeg_U (pc' := 86) (ls' := [some (.ref 112), some (.int v1), some (.int v2), some (.int v3), some (.int ((8 * v1) + v2)), none, none]) (st' := [.int 0]) 2 rfl ?_
              cases h
              exact pmU_T rfl rfl rfl rfl rfl rfl
            · refine pmSeg_U (pc' := 86) (ls' := [some (.ref 112), some (.int v1), some (.int v2), some (.int v3), some (.int ((8 * v1) + v2)), none, none]) (st' := [.int 1]) 2 rfl ?_
              cases h
              exact pmU_T rfl rfl rfl rfl rfl rfl
      · refine pmSeg_U (pc' := 20) (ls' := [some (.ref 112), some (.int v1), some (.int v2), some (.int v3), none, none, none]) (st' := [.int (-2)]) 1 rfl ?_
        cases h
        exact pmU_T rfl rfl rfl rfl rfl rfl
theorem L_Mo_ask_b90 {S : pmS} (d : Nat)   {k57 : Int32 → Int32 → Int32 → Int32 → Int32 → Mem → Option (Int32 × Mem)} (Hk57 : ∀ {v1 : Int32} {v2 : Int32} {v3 : Int32} {v4 : Int32} {v5 : Int32} {σ τ : Mem} {z : Int32 × Mem}, k57 v1 v2 v3 v4 v5 σ = some z → pmU S (d + 4) 143 57 [some (.ref 112), some (.int v1), some (.int v2), some (.int v3), some (.int v4), some (.int v5)] [] (shH τ σ) (some (.int z.1)) (shH τ z.2)) {v1 : Int32} {v2 : Int32} {v3 : Int32} {v4 : Int32} {v5 : Int32} {s0 : Int32} {s1 : Int32} {σ τ : Mem} {z : Int32 × Mem}  (h : Mo_ask_b90 k57 v1 v2 v3 v4 v5 s0 s1 σ = some z) : pmU S (d + 4) 143 90 [some (.ref 112), some (.int v1), some (.int v2), some (.int v3), some (.int v4), some (.int v5)] [.int s1, .int s0] (shH τ σ) (some (.int z.1)) (shH τ z.2) := by
  unfold Mo_ask_b90 at h
  refine pmSeg_U (pc' := 90) (ls' := [some (.ref 112), some (.int v1), some (.int v2), some (.int v3), some (.int v4), some (.int v5)]) (st' := [.int s1, .int s0]) 0 rfl ?_
  refine pu_icmpP (tg := 103) h rfl rfl rfl (fun h => ?_) (fun h => ?_)
  · refine pmSeg_U (pc' := 57) (ls' := [some (.ref 112), some (.int v1), some (.int v2), some (.int v3), some (.int v4), some (.int (v5 + 1))]) (st' := []) 4 rfl ?_
    exact Hk57 h
  · refine pmSeg_U (pc' := 57) (ls' := [some (.ref 112), some (.int v1), some (.int v2), some (.int v3), some (.int (v4 ||| (1 <<< (v5 &&& 31)))), some (.int (v5 + 1))]) (st' := []) 9 rfl ?_
    exact Hk57 h
theorem L_Mo_ask_b57 {S : pmS} (d : Nat)    : ∀ (n0 : Nat) {v1 : Int32} {v2 : Int32} {v3 : Int32} {v4 : Int32} {v5 : Int32} {σ τ : Mem} {z : Int32 × Mem}, Mo_ask_b57 n0 v1 v2 v3 v4 v5 σ = some z → pmU S (d + 4) 143 57 [some (.ref 112), some (.int v1), some (.int v2), some (.int v3), some (.int v4), some (.int v5)] [] (shH τ σ) (some (.int z.1)) (shH τ z.2) := by
  intro n0
  induction n0 with
  | zero =>
    intro v1 v2 v3 v4 v5 σ τ z  h
    unfold Mo_ask_b57 at h
    cases h
  | succ n1 ih =>
    intro v1 v2 v3 v4 v5 σ τ z  h
    unfold Mo_ask_b57 at h
    obtain ⟨g1, h⟩ := gd_in h
    refine pmSeg_U (pc' := 64) (ls' := [some (.ref 112), some (.int v1), some (.int v2), some (.int v3), some (.int v4), some (.int v5)]) (st' := [.int v1, .ref 118, .int v5]) 4 rfl ?_
    refine pu_iald rfl rfl g1 (shp_iM (c := 6) rfl) ?_
    refine pmSeg_U (pc' := 65) (ls' := [some (.ref 112), some (.int v1), some (.int v2), some (.int v3), some (.int v4), some (.int v5)]) (st' := [.int (σ 6 v1.toNatClampNeg), .int v5]) 0 rfl ?_
    refine pu_icmpP (tg := 113) h rfl rfl rfl (fun h => ?_) (fun h => ?_)
    · refine pmSeg_U (pc' := 115) (ls' := [some (.ref 112), some (.int v1), some (.int v2), some (.int v3), some (.int v4), some (.int v5)]) (st' := [.int v4]) 1 rfl ?_
      cases h
      exact pmU_T rfl rfl rfl rfl rfl rfl
    · refine pmSeg_U (pc' := 77) (ls' := [some (.ref 112), some (.int v1), some (.int v2), some (.int v3), some (.int v4), some (.int v5)]) (st' := [.int v2, .int ((8 * v1) + v5), .ref 112]) 7 rfl ?_
      obtain ⟨q77, hq77, h⟩ := bd_in h
      refine pmU_C (av := [.ref 112, .int ((8 * v1) + v5), .int v2]) (rest := []) rfl rfl rfl rfl rfl (L_Mo_work (d + 1) hq77) ?_
      refine pmSeg_U (pc' := 82) (ls' := [some (.ref 112), some (.int v1), some (.int v2), some (.int v3), some (.int v4), some (.int v5)]) (st' := [.int 1, .int v3, .int q77.1]) 2 rfl ?_
      refine pu_icmpP (tg := 89) h rfl rfl rfl (fun h => ?_) (fun h => ?_)
      · refine pmSeg_U (pc' := 90) (ls' := [some (.ref 112), some (.int v1), some (.int v2), some (.int v3), some (.int v4), some (.int v5)]) (st' := [.int (-1), .int q77.1]) 1 rfl ?_
        exact L_Mo_ask_b90 d ih h
      · refine pmSeg_U (pc' := 90) (ls' := [some (.ref 112), some (.int v1), some (.int v2), some (.int v3), some (.int v4), some (.int v5)]) (st' := [.int 1, .int q77.1]) 2 rfl ?_
        exact L_Mo_ask_b90 d ih h
theorem L_Mo_ask {S : pmS} (d : Nat) {v1 : Int32} {v2 : Int32} {v3 : Int32} {σ τ : Mem} {z : Int32 × Mem}  (h : Mo_ask v1 v2 v3 σ = some z) : pmX S (d + 5) 143 [.ref 112, .int v1, .int v2, .int v3] (shH τ σ) (some (.int z.1)) (shH τ z.2) := by
  unfold Mo_ask at h
  refine pmU_X rfl ?_
  refine pmSeg_U (pc' := 2) (ls' := [some (.ref 112), some (.int v1), some (.int v2), some (.int v3), none, none]) (st' := [.int v1, .ref 112]) 2 rfl ?_
  refine pmU_C (av := [.ref 112, .int v1]) (rest := []) rfl rfl rfl rfl rfl (L_Mo_isSet (d + 3)) ?_
  refine pmSeg_U (pc' := 5) (ls' := [some (.ref 112), some (.int v1), some (.int v2), some (.int v3), none, none]) (st' := [.int (Mo_isSet v1)]) 0 rfl ?_
  refine pu_ifP (tg := 28) h rfl rfl rfl (fun h => ?_) (fun h => ?_)
  · refine pmSeg_U (pc' := 30) (ls' := [some (.ref 112), some (.int v1), some (.int v2), some (.int v3), none, none]) (st' := [.int (-2)]) 1 rfl ?_
    cases h
    exact pmU_T rfl rfl rfl rfl rfl rfl
  · refine pmSeg_U (pc' := 9) (ls' := [some (.ref 112), some (.int v1), some (.int v2), some (.int v3), none, none]) (st' := [.int v2]) 1 rfl ?_
    refine pu_ifP (tg := 28) h rfl rfl rfl (fun h => ?_) (fun h => ?_)
    · refine pmSeg_U (pc' := 30) (ls' := [some (.ref 112), some (.int v1), some (.int v2), some (.int v3), none, none]) (st' := [.int (-2)]) 1 rfl ?_
      cases h
      exact pmU_T rfl rfl rfl rfl rfl rfl
    · refine pmSeg_U (pc' := 16) (ls' := [some (.ref 112), some (.int v1), some (.int v2), some (.int v3), none, none]) (st' := [.int 2047, .int v2]) 2 rfl ?_
      refine pu_icmpP (tg := 28) h rfl rfl rfl (fun h => ?_) (fun h => ?_)
      · refine pmSeg_U (pc' := 30) (ls' := [some (.ref 112), some (.int v1), some (.int v2), some (.int v3), none, none]) (st' := [.int (-2)]) 1 rfl ?_
        cases h
        exact pmU_T rfl rfl rfl rfl rfl rfl
      · refine pmSeg_U (pc' := 20) (ls' := [some (.ref 112), some (.int v1), some (.int v2), some (.int v3), none, none]) (st' := [.int v3]) 1 rfl ?_
        refine pu_ifP (tg := 28) h rfl rfl rfl (fun h => ?_) (fun h => ?_)
        · refine pmSeg_U (pc' := 30) (ls' := [some (.ref 112), some (.int v1), some (.int v2), some (.int v3), none, none]) (st' := [.int (-2)]) 1 rfl ?_
          cases h
          exact pmU_T rfl rfl rfl rfl rfl rfl
        · refine pmSeg_U (pc' := 25) (ls' := [some (.ref 112), some (.int v1), some (.int v2), some (.int v3), none, none]) (st' := [.int 2, .int v3]) 2 rfl ?_
          refine pu_icmpP (tg := 31) h rfl rfl rfl (fun h => ?_) (fun h => ?_)
          · refine pmSeg_U (pc' := 32) (ls' := [some (.ref 112), some (.int v1), some (.int v2), some (.int v3), none, none]) (st' := [.int v3]) 1 rfl ?_
            refine pu_ifP (tg := 51) h rfl rfl rfl (fun h => ?_) (fun h => ?_)
            · refine pmSeg_U (pc' := 57) (ls' := [some (.ref 112), some (.int v1), some (.int v2), some (.int v3), some (.int 0), some (.int 0)]) (st' := []) 4 rfl ?_
              exact L_Mo_ask_b57 d FU h
            · refine pmSeg_U (pc' := 39) (ls' := [some (.ref 112), some (.int v1), some (.int v2), some (.int v3), none, none]) (st' := [.int (-1), .int v2, .int v1, .ref 112]) 4 rfl ?_
              obtain ⟨q39, hq39, h⟩ := bd_in h
              refine pmU_C (av := [.ref 112, .int v1, .int v2, .int (-1)]) (rest := []) rfl rfl rfl rfl rfl (L_Mo_allowed (d + 0) hq39) ?_
              refine pmSeg_U (pc' := 42) (ls' := [some (.ref 112), some (.int v1), some (.int v2), some (.int v3), none, none]) (st' := [.int q39.1]) 0 rfl ?_
              refine pu_ifP (tg := 49) h rfl rfl rfl (fun h => ?_) (fun h => ?_)
              · refine pmSeg_U (pc' := 50) (ls' := [some (.ref 112), some (.int v1), some (.int v2), some (.int v3), none, none]) (st' := [.int 0]) 1 rfl ?_
                cases h
                exact pmU_T rfl rfl rfl rfl rfl rfl
              · refine pmSeg_U (pc' := 50) (ls' := [some (.ref 112), some (.int v1), some (.int v2), some (.int v3), none, none]) (st' := [.int 1]) 2 rfl ?_
                cases h
                exact pmU_T rfl rfl rfl rfl rfl rfl
          · refine pmSeg_U (pc' := 30) (ls' := [some (.ref 112), some (.int v1), some (.int v2), some (.int v3), none, none]) (st' := [.int (-2)]) 1 rfl ?_
            cases h
            exact pmU_T rfl rfl rfl rfl rfl rfl
theorem L_Mo_allows_b31 {S : pmS} (d : Nat)    : ∀ (n0 : Nat) {v1 : Int32} {v2 : Int32} {v3 : Int32} {v4 : Int32} {v5 : Int32} {v6 : Int32} {σ τ : Mem} {z : Int32 × Mem}, Mo_allows_b31 n0 v1 v2 v3 v4 v5 v6 σ = some z → pmU S (d + 4) 145 31 [some (.ref 112), some (.int v1), some (.int v2), some (.int v3), some (.int v4), some (.int v5), some (.int v6)] [] (shH τ σ) (some (.int z.1)) (shH τ z.2) := by
  intro n0
  induction n0 with
  | zero =>
    intro v1 v2 v3 v4 v5 v6 σ τ z  h
    unfold Mo_allows_b31 at h
    cases h
  | succ n1 ih =>
    intro v1 v2 v3 v4 v5 v6 σ τ z  h
    unfold Mo_allows_b31 at h
    refine pmSeg_U (pc' := 36) (ls' := [some (.ref 112), some (.int v1), some (.int v2), some (.int v3), some (.int v4), some (.int v5), some (.int v6)]) (st' := [.int 2048, .int v6]) 2 rfl ?_
    refine pu_icmpP (tg := 77) h rfl rfl rfl (fun h => ?_) (fun h => ?_)
    · refine pmSeg_U (pc' := 78) (ls' := [some (.ref 112), some (.int v1), some (.int v2), some (.int v3), some (.int v4), some (.int v5), some (.int v6)]) (st' := [.int v2]) 1 rfl ?_
      refine pu_ifP (tg := 85) h rfl rfl rfl (fun h => ?_) (fun h => ?_)
      · refine pmSeg_U (pc' := 87) (ls' := [some (.ref 112), some (.int v1), some (.int v2), some (.int v3), some (.int v4), some (.int v5), some (.int v6)]) (st' := [.int 1, .int v2]) 2 rfl ?_
        refine pu_icmpP (tg := 95) h rfl rfl rfl (fun h => ?_) (fun h => ?_)
        · refine pmSeg_U (pc' := 97) (ls' := [some (.ref 112), some (.int v1), some (.int v2), some (.int v3), some (.int v4), some (.int v5), some (.int v6)]) (st' := [.int v5]) 1 rfl ?_
          cases h
          exact pmU_T rfl rfl rfl rfl rfl rfl
        · refine pmSeg_U (pc' := 97) (ls' := [some (.ref 112), some (.int v1), some (.int v2), some (.int v3), some (.int v4), some (.int v5), some (.int v6)]) (st' := [.int v4]) 2 rfl ?_
          cases h
          exact pmU_T rfl rfl rfl rfl rfl rfl
      · refine pmSeg_U (pc' := 97) (ls' := [some (.ref 112), some (.int v1), some (.int v2), some (.int v3), some (.int v4), some (.int v5), some (.int v6)]) (st' := [.int v3]) 2 rfl ?_
        cases h
        exact pmU_T rfl rfl rfl rfl rfl rfl
    · refine pmSeg_U (pc' := 44) (ls' := [some (.ref 112), some (.int v1), some (.int v2), some (.int v3), some (.int v4), some (.int v5), some (.int v6)]) (st' := [.int (-1), .int v6, .int v1, .ref 112]) 4 rfl ?_
      obtain ⟨q44, hq44, h⟩ := bd_in h
      refine pmU_C (av := [.ref 112, .int v1, .int v6, .int (-1)]) (rest := []) rfl rfl rfl rfl rfl (L_Mo_allowed (d + 0) hq44) ?_
      refine pmSeg_U (pc' := 47) (ls' := [some (.ref 112), some (.int v1), some (.int v2), some (.int v3), some (.int v4), some (.int v5), some (.int v6)]) (st' := [.int q44.1]) 0 rfl ?_
      refine pu_ifP (tg := 71) h rfl rfl rfl (fun h => ?_) (fun h => ?_)
      · refine pmSeg_U (pc' := 31) (ls' := [some (.ref 112), some (.int v1), some (.int v2), some (.int v3), some (.int v4), some (.int v5), some (.int (v6 + 1))]) (st' := []) 2 rfl ?_
        exact ih h
      · refine pmSeg_U (pc' := 55) (ls' := [some (.ref 112), some (.int v1), some (.int v2), some (.int (v3 + 1)), some (.int v4), some (.int v5), some (.int v6)]) (st' := [.int v4]) 2 rfl ?_
        refine pu_ifP (tg := 63) h rfl rfl rfl (fun h => ?_) (fun h => ?_)
        · refine pmSeg_U (pc' := 31) (ls' := [some (.ref 112), some (.int v1), some (.int v2), some (.int (v3 + 1)), some (.int v4), some (.int v6), some (.int (v6 + 1))]) (st' := []) 6 rfl ?_
          exact ih h
        · refine pmSeg_U (pc' := 31) (ls' := [some (.ref 112), some (.int v1), some (.int v2), some (.int (v3 + 1)), some (.int v6), some (.int v6), some (.int (v6 + 1))]) (st' := []) 7 rfl ?_
          exact ih h
theorem L_Mo_allows {S : pmS} (d : Nat) {v1 : Int32} {v2 : Int32} {σ τ : Mem} {z : Int32 × Mem}  (h : Mo_allows v1 v2 σ = some z) : pmX S (d + 5) 145 [.ref 112, .int v1, .int v2] (shH τ σ) (some (.int z.1)) (shH τ z.2) := by
  unfold Mo_allows at h
  refine pmU_X rfl ?_
  refine pmSeg_U (pc' := 2) (ls' := [some (.ref 112), some (.int v1), some (.int v2), none, none, none, none]) (st' := [.int v1, .ref 112]) 2 rfl ?_
  refine pmU_C (av := [.ref 112, .int v1]) (rest := []) rfl rfl rfl rfl rfl (L_Mo_isSet (d + 3)) ?_
  refine pmSeg_U (pc' := 5) (ls' := [some (.ref 112), some (.int v1), some (.int v2), none, none, none, none]) (st' := [.int (Mo_isSet v1)]) 0 rfl ?_
  refine pu_ifP (tg := 17) h rfl rfl rfl (fun h => ?_) (fun h => ?_)
  · refine pmSeg_U (pc' := 19) (ls' := [some (.ref 112), some (.int v1), some (.int v2), none, none, none, none]) (st' := [.int (-2)]) 1 rfl ?_
    cases h
    exact pmU_T rfl rfl rfl rfl rfl rfl
  · refine pmSeg_U (pc' := 9) (ls' := [some (.ref 112), some (.int v1), some (.int v2), none, none, none, none]) (st' := [.int v2]) 1 rfl ?_
    refine pu_ifP (tg := 17) h rfl rfl rfl (fun h => ?_) (fun h => ?_)
    · refine pmSeg_U (pc' := 19) (ls' := [some (.ref 112), some (.int v1), some (.int v2), none, none, none, none]) (st' := [.int (-2)]) 1 rfl ?_
      cases h
      exact pmU_T rfl rfl rfl rfl rfl rfl
    · refine pmSeg_U (pc' := 14) (ls' := [some (.ref 112), some (.int v1), some (.int v2), none, none, none, none]) (st' := [.int 2, .int v2]) 2 rfl ?_
      refine pu_icmpP (tg := 20) h rfl rfl rfl (fun h => ?_) (fun h => ?_)
      · refine pmSeg_U (pc' := 31) (ls' := [some (.ref 112), some (.int v1), some (.int v2), some (.int 0), some (.int (-1)), some (.int (-1)), some (.int 0)]) (st' := []) 8 rfl ?_
        exact L_Mo_allows_b31 d FU h
      · refine pmSeg_U (pc' := 19) (ls' := [some (.ref 112), some (.int v1), some (.int v2), none, none, none, none]) (st' := [.int (-2)]) 1 rfl ?_
        cases h
        exact pmU_T rfl rfl rfl rfl rfl rfl
theorem L_Mo_compare_b85 {S : pmS} (d : Nat)   {k22 : Int32 → Int32 → Int32 → Int32 → Int32 → Mem → Option (Int32 × Mem)} (Hk22 : ∀ {v1 : Int32} {v2 : Int32} {v3 : Int32} {v4 : Int32} {v5 : Int32} {σ τ : Mem} {z : Int32 × Mem}, k22 v1 v2 v3 v4 v5 σ = some z → pmU S (d + 4) 146 22 [some (.ref 112), some (.int v1), some (.int v2), some (.int v3), some (.int v4), some (.int v5), none, none] [] (shH τ σ) (some (.int z.1)) (shH τ z.2)) {v1 : Int32} {v2 : Int32} {v4 : Int32} {v5 : Int32} {v6 : Int32} {v7 : Int32} {s0 : Int32} {σ τ : Mem} {z : Int32 × Mem}  (h : Mo_compare_b85 k22 v1 v2 v4 v5 v6 v7 s0 σ = some z) : pmU S (d + 4) 146 85 [some (.ref 112), some (.int v1), some (.int v2), none, some (.int v4), some (.int v5), some (.int v6), some (.int v7)] [.int s0] (shH τ σ) (some (.int z.1)) (shH τ z.2) := by
  unfold Mo_compare_b85 at h
  refine pmSeg_U (pc' := 88) (ls' := [some (.ref 112), some (.int v1), some (.int v2), some (.int s0), some (.int v4), some (.int v5), some (.int v6), some (.int v7)]) (st' := [.int v4]) 2 rfl ?_
  refine pu_ifP (tg := 103) h rfl rfl rfl (fun h => ?_) (fun h => ?_)
  · refine pmSeg_U (pc' := 22) (ls' := [some (.ref 112), some (.int v1), some (.int v2), some (.int s0), some (.int v4), some (.int (v5 + 1)), some (.int v6), some (.int v7)]) (st' := []) 4 rfl ?_
    refine pmU_le (a := [some (.ref 112), some (.int v1), some (.int v2), some (.int s0), some (.int v4), some (.int (v5 + 1)), none, none]) (le_s (le_s (le_s (le_s (le_s (le_s (le_v rfl (le_v rfl le_nil)))))))) ?_
    exact Hk22 h
  · refine pmSeg_U (pc' := 95) (ls' := [some (.ref 112), some (.int v1), some (.int v2), some (.int s0), some (.int v4), some (.int v5), some (.int v6), some (.int v7)]) (st' := [.int v7, .int v6]) 2 rfl ?_
    refine pu_icmpP (tg := 103) h rfl rfl rfl (fun h => ?_) (fun h => ?_)
    · refine pmSeg_U (pc' := 22) (ls' := [some (.ref 112), some (.int v1), some (.int v2), some (.int s0), some (.int v4), some (.int (v5 + 1)), some (.int v6), some (.int v7)]) (st' := []) 4 rfl ?_
      refine pmU_le (a := [some (.ref 112), some (.int v1), some (.int v2), some (.int s0), some (.int v4), some (.int (v5 + 1)), none, none]) (le_s (le_s (le_s (le_s (le_s (le_s (le_v rfl (le_v rfl le_nil)))))))) ?_
      exact Hk22 h
    · refine pmSeg_U (pc' := 22) (ls' := [some (.ref 112), some (.int v1), some (.int v2), some (.int s0), some (.int v5), some (.int (v5 + 1)), some (.int v6), some (.int v7)]) (st' := []) 5 rfl ?_
      refine pmU_le (a := [some (.ref 112), some (.int v1), some (.int v2), some (.int s0), some (.int v5), some (.int (v5 + 1)), none, none]) (le_s (le_s (le_s (le_s (le_s (le_s (le_v rfl (le_v rfl le_nil)))))))) ?_
      exact Hk22 h
theorem L_Mo_compare_b84 {S : pmS} (d : Nat)   {k22 : Int32 → Int32 → Int32 → Int32 → Int32 → Mem → Option (Int32 × Mem)} (Hk22 : ∀ {v1 : Int32} {v2 : Int32} {v3 : Int32} {v4 : Int32} {v5 : Int32} {σ τ : Mem} {z : Int32 × Mem}, k22 v1 v2 v3 v4 v5 σ = some z → pmU S (d + 4) 146 22 [some (.ref 112), some (.int v1), some (.int v2), some (.int v3), some (.int v4), some (.int v5), none, none] [] (shH τ σ) (some (.int z.1)) (shH τ z.2)) {v1 : Int32} {v2 : Int32} {v3 : Int32} {v4 : Int32} {v5 : Int32} {v6 : Int32} {v7 : Int32} {σ τ : Mem} {z : Int32 × Mem}  (h : Mo_compare_b84 k22 v1 v2 v3 v4 v5 v6 v7 σ = some z) : pmU S (d + 4) 146 84 [some (.ref 112), some (.int v1), some (.int v2), some (.int v3), some (.int v4), some (.int v5), some (.int v6), some (.int v7)] [] (shH τ σ) (some (.int z.1)) (shH τ z.2) := by
  unfold Mo_compare_b84 at h
  refine pmSeg_U (pc' := 85) (ls' := [some (.ref 112), some (.int v1), some (.int v2), some (.int v3), some (.int v4), some (.int v5), some (.int v6), some (.int v7)]) (st' := [.int v3]) 1 rfl ?_
  refine pmU_le (a := [some (.ref 112), some (.int v1), some (.int v2), none, some (.int v4), some (.int v5), some (.int v6), some (.int v7)]) (le_s (le_s (le_s (le_v rfl (le_s (le_s (le_s (le_s le_nil)))))))) ?_
  exact L_Mo_compare_b85 d Hk22 h
theorem L_Mo_compare_b67 {S : pmS} (d : Nat)   {k22 : Int32 → Int32 → Int32 → Int32 → Int32 → Mem → Option (Int32 × Mem)} (Hk22 : ∀ {v1 : Int32} {v2 : Int32} {v3 : Int32} {v4 : Int32} {v5 : Int32} {σ τ : Mem} {z : Int32 × Mem}, k22 v1 v2 v3 v4 v5 σ = some z → pmU S (d + 4) 146 22 [some (.ref 112), some (.int v1), some (.int v2), some (.int v3), some (.int v4), some (.int v5), none, none] [] (shH τ σ) (some (.int z.1)) (shH τ z.2)) {v1 : Int32} {v3 : Int32} {v4 : Int32} {v5 : Int32} {v6 : Int32} {v7 : Int32} {s0 : Int32} {σ τ : Mem} {z : Int32 × Mem}  (h : Mo_compare_b67 k22 v1 v3 v4 v5 v6 v7 s0 σ = some z) : pmU S (d + 4) 146 67 [some (.ref 112), some (.int v1), none, some (.int v3), some (.int v4), some (.int v5), some (.int v6), some (.int v7)] [.int s0] (shH τ σ) (some (.int z.1)) (shH τ z.2) := by
  unfold Mo_compare_b67 at h
  refine pmSeg_U (pc' := 70) (ls' := [some (.ref 112), some (.int v1), some (.int s0), some (.int v3), some (.int v4), some (.int v5), some (.int v6), some (.int v7)]) (st' := [.int v7]) 2 rfl ?_
  refine pu_ifP (tg := 84) h rfl rfl rfl (fun h => ?_) (fun h => ?_)
  · refine pmSeg_U (pc' := 84) (ls' := [some (.ref 112), some (.int v1), some (.int s0), some (.int v3), some (.int v4), some (.int v5), some (.int v6), some (.int v7)]) (st' := []) 0 rfl ?_
    exact L_Mo_compare_b84 d Hk22 h
  · refine pmSeg_U (pc' := 75) (ls' := [some (.ref 112), some (.int v1), some (.int s0), some (.int v3), some (.int v4), some (.int v5), some (.int v6), some (.int v7)]) (st' := [.int v6]) 1 rfl ?_
    refine pu_ifP (tg := 84) h rfl rfl rfl (fun h => ?_) (fun h => ?_)
    · refine pmSeg_U (pc' := 84) (ls' := [some (.ref 112), some (.int v1), some (.int s0), some (.int v3), some (.int v4), some (.int v5), some (.int v6), some (.int v7)]) (st' := []) 0 rfl ?_
      exact L_Mo_compare_b84 d Hk22 h
    · refine pmSeg_U (pc' := 85) (ls' := [some (.ref 112), some (.int v1), some (.int s0), some (.int v3), some (.int v4), some (.int v5), some (.int v6), some (.int v7)]) (st' := [.int (v3 + 1)]) 4 rfl ?_
      refine pmU_le (a := [some (.ref 112), some (.int v1), some (.int s0), none, some (.int v4), some (.int v5), some (.int v6), some (.int v7)]) (le_s (le_s (le_s (le_v rfl (le_s (le_s (le_s (le_s le_nil)))))))) ?_
      exact L_Mo_compare_b85 d Hk22 h
theorem L_Mo_compare_b66 {S : pmS} (d : Nat)   {k22 : Int32 → Int32 → Int32 → Int32 → Int32 → Mem → Option (Int32 × Mem)} (Hk22 : ∀ {v1 : Int32} {v2 : Int32} {v3 : Int32} {v4 : Int32} {v5 : Int32} {σ τ : Mem} {z : Int32 × Mem}, k22 v1 v2 v3 v4 v5 σ = some z → pmU S (d + 4) 146 22 [some (.ref 112), some (.int v1), some (.int v2), some (.int v3), some (.int v4), some (.int v5), none, none] [] (shH τ σ) (some (.int z.1)) (shH τ z.2)) {v1 : Int32} {v2 : Int32} {v3 : Int32} {v4 : Int32} {v5 : Int32} {v6 : Int32} {v7 : Int32} {σ τ : Mem} {z : Int32 × Mem}  (h : Mo_compare_b66 k22 v1 v2 v3 v4 v5 v6 v7 σ = some z) : pmU S (d + 4) 146 66 [some (.ref 112), some (.int v1), some (.int v2), some (.int v3), some (.int v4), some (.int v5), some (.int v6), some (.int v7)] [] (shH τ σ) (some (.int z.1)) (shH τ z.2) := by
  unfold Mo_compare_b66 at h
  refine pmSeg_U (pc' := 67) (ls' := [some (.ref 112), some (.int v1), some (.int v2), some (.int v3), some (.int v4), some (.int v5), some (.int v6), some (.int v7)]) (st' := [.int v2]) 1 rfl ?_
  refine pmU_le (a := [some (.ref 112), some (.int v1), none, some (.int v3), some (.int v4), some (.int v5), some (.int v6), some (.int v7)]) (le_s (le_s (le_v rfl (le_s (le_s (le_s (le_s (le_s le_nil)))))))) ?_
  exact L_Mo_compare_b67 d Hk22 h
theorem L_Mo_compare_b22 {S : pmS} (d : Nat)    : ∀ (n0 : Nat) {v1 : Int32} {v2 : Int32} {v3 : Int32} {v4 : Int32} {v5 : Int32} {σ τ : Mem} {z : Int32 × Mem}, Mo_compare_b22 n0 v1 v2 v3 v4 v5 σ = some z → pmU S (d + 4) 146 22 [some (.ref 112), some (.int v1), some (.int v2), some (.int v3), some (.int v4), some (.int v5), none, none] [] (shH τ σ) (some (.int z.1)) (shH τ z.2) := by
  intro n0
  induction n0 with
  | zero =>
    intro v1 v2 v3 v4 v5 σ τ z  h
    unfold Mo_compare_b22 at h
    cases h
  | succ n1 ih =>
    intro v1 v2 v3 v4 v5 σ τ z  h
    unfold Mo_compare_b22 at h
    refine pmSeg_U (pc' := 27) (ls' := [some (.ref 112), some (.int v1), some (.int v2), some (.int v3), some (.int v4), some (.int v5), none, none]) (st' := [.int 2048, .int v5]) 2 rfl ?_
    refine pu_icmpP (tg := 113) h rfl rfl rfl (fun h => ?_) (fun h => ?_)
    · refine pmSeg_U (pc' := 114) (ls' := [some (.ref 112), some (.int v1), some (.int v2), some (.int v3), some (.int v4), some (.int v5), none, none]) (st' := [.int v1]) 1 rfl ?_
      refine pu_ifP (tg := 121) h rfl rfl rfl (fun h => ?_) (fun h => ?_)
      · refine pmSeg_U (pc' := 123) (ls' := [some (.ref 112), some (.int v1), some (.int v2), some (.int v3), some (.int v4), some (.int v5), none, none]) (st' := [.int 1, .int v1]) 2 rfl ?_
        refine pu_icmpP (tg := 130) h rfl rfl rfl (fun h => ?_) (fun h => ?_)
        · refine pmSeg_U (pc' := 132) (ls' := [some (.ref 112), some (.int v1), some (.int v2), some (.int v3), some (.int v4), some (.int v5), none, none]) (st' := [.int v4]) 1 rfl ?_
          cases h
          exact pmU_T rfl rfl rfl rfl rfl rfl
        · refine pmSeg_U (pc' := 132) (ls' := [some (.ref 112), some (.int v1), some (.int v2), some (.int v3), some (.int v4), some (.int v5), none, none]) (st' := [.int v3]) 2 rfl ?_
          cases h
          exact pmU_T rfl rfl rfl rfl rfl rfl
      · refine pmSeg_U (pc' := 132) (ls' := [some (.ref 112), some (.int v1), some (.int v2), some (.int v3), some (.int v4), some (.int v5), none, none]) (st' := [.int v2]) 2 rfl ?_
        cases h
        exact pmU_T rfl rfl rfl rfl rfl rfl
    · refine pmSeg_U (pc' := 35) (ls' := [some (.ref 112), some (.int v1), some (.int v2), some (.int v3), some (.int v4), some (.int v5), none, none]) (st' := [.int (-1), .int v5, .int 0, .ref 112]) 4 rfl ?_
      obtain ⟨q35, hq35, h⟩ := bd_in h
      refine pmU_C (av := [.ref 112, .int 0, .int v5, .int (-1)]) (rest := []) rfl rfl rfl rfl rfl (L_Mo_allowed (d + 0) hq35) ?_
      refine pmSeg_U (pc' := 45) (ls' := [some (.ref 112), some (.int v1), some (.int v2), some (.int v3), some (.int v4), some (.int v5), some (.int q35.1), none]) (st' := [.int (-1), .int v5, .int 1, .ref 112]) 5 rfl ?_
      obtain ⟨q45, hq45, h⟩ := bd_in h
      refine pmU_C (av := [.ref 112, .int 1, .int v5, .int (-1)]) (rest := []) rfl rfl rfl rfl rfl (L_Mo_allowed (d + 0) hq45) ?_
      refine pmSeg_U (pc' := 52) (ls' := [some (.ref 112), some (.int v1), some (.int v2), some (.int v3), some (.int v4), some (.int v5), some (.int q35.1), some (.int q45.1)]) (st' := [.int q35.1]) 2 rfl ?_
      refine pu_ifP (tg := 66) h rfl rfl rfl (fun h => ?_) (fun h => ?_)
      · refine pmSeg_U (pc' := 66) (ls' := [some (.ref 112), some (.int v1), some (.int v2), some (.int v3), some (.int v4), some (.int v5), some (.int q35.1), some (.int q45.1)]) (st' := []) 0 rfl ?_
        exact L_Mo_compare_b66 d ih h
      · refine pmSeg_U (pc' := 57) (ls' := [some (.ref 112), some (.int v1), some (.int v2), some (.int v3), some (.int v4), some (.int v5), some (.int q35.1), some (.int q45.1)]) (st' := [.int q45.1]) 1 rfl ?_
        refine pu_ifP (tg := 66) h rfl rfl rfl (fun h => ?_) (fun h => ?_)
        · refine pmSeg_U (pc' := 66) (ls' := [some (.ref 112), some (.int v1), some (.int v2), some (.int v3), some (.int v4), some (.int v5), some (.int q35.1), some (.int q45.1)]) (st' := []) 0 rfl ?_
          exact L_Mo_compare_b66 d ih h
        · refine pmSeg_U (pc' := 67) (ls' := [some (.ref 112), some (.int v1), some (.int v2), some (.int v3), some (.int v4), some (.int v5), some (.int q35.1), some (.int q45.1)]) (st' := [.int (v2 + 1)]) 4 rfl ?_
          refine pmU_le (a := [some (.ref 112), some (.int v1), none, some (.int v3), some (.int v4), some (.int v5), some (.int q35.1), some (.int q45.1)]) (le_s (le_s (le_v rfl (le_s (le_s (le_s (le_s (le_s le_nil)))))))) ?_
          exact L_Mo_compare_b67 d ih h
theorem L_Mo_compare {S : pmS} (d : Nat) {v1 : Int32} {σ τ : Mem} {z : Int32 × Mem}  (h : Mo_compare v1 σ = some z) : pmX S (d + 5) 146 [.ref 112, .int v1] (shH τ σ) (some (.int z.1)) (shH τ z.2) := by
  unfold Mo_compare at h
  refine pmU_X rfl ?_
  refine pmSeg_U (pc' := 1) (ls' := [some (.ref 112), some (.int v1), none, none, none, none, none, none]) (st' := [.int v1]) 1 rfl ?_
  refine pu_ifP (tg := 9) h rfl rfl rfl (fun h => ?_) (fun h => ?_)
  · refine pmSeg_U (pc' := 11) (ls' := [some (.ref 112), some (.int v1), none, none, none, none, none, none]) (st' := [.int (-2)]) 1 rfl ?_
    cases h
    exact pmU_T rfl rfl rfl rfl rfl rfl
  · refine pmSeg_U (pc' := 6) (ls' := [some (.ref 112), some (.int v1), none, none, none, none, none, none]) (st' := [.int 2, .int v1]) 2 rfl ?_
    refine pu_icmpP (tg := 12) h rfl rfl rfl (fun h => ?_) (fun h => ?_)
    · refine pmSeg_U (pc' := 22) (ls' := [some (.ref 112), some (.int v1), some (.int 0), some (.int 0), some (.int (-1)), some (.int 0), none, none]) (st' := []) 8 rfl ?_
      exact L_Mo_compare_b22 d FU h
    · refine pmSeg_U (pc' := 11) (ls' := [some (.ref 112), some (.int v1), none, none, none, none, none, none]) (st' := [.int (-2)]) 1 rfl ?_
      cases h
      exact pmU_T rfl rfl rfl rfl rfl rfl
theorem L_Mo_needless_b60 {S : pmS} (d : Nat)    {v3 : Int32} {σ τ : Mem} {z : Int32 × Mem}  (h : Mo_needless_b60 v3 σ = some z) : pmU S (d + 4) 147 60 [none, none, none, some (.int v3), none] [] (shH τ σ) (some (.int z.1)) (shH τ z.2) := by
  unfold Mo_needless_b60 at h
  refine pmSeg_U (pc' := 61) (ls' := [none, none, none, some (.int v3), none]) (st' := [.int v3]) 1 rfl ?_
  refine pu_ifP (tg := 68) h rfl rfl rfl (fun h => ?_) (fun h => ?_)
  · refine pmSeg_U (pc' := 69) (ls' := [none, none, none, some (.int v3), none]) (st' := [.int 0]) 1 rfl ?_
    cases h
    exact pmU_T rfl rfl rfl rfl rfl rfl
  · refine pmSeg_U (pc' := 69) (ls' := [none, none, none, some (.int v3), none]) (st' := [.int 1]) 2 rfl ?_
    cases h
    exact pmU_T rfl rfl rfl rfl rfl rfl
theorem L_Mo_needless_b17 {S : pmS} (d : Nat)    : ∀ (n0 : Nat) {v1 : Int32} {v2 : Int32} {v3 : Int32} {v4 : Int32} {σ τ : Mem} {z : Int32 × Mem}, Mo_needless_b17 n0 v1 v2 v3 v4 σ = some z → pmU S (d + 4) 147 17 [some (.ref 112), some (.int v1), some (.int v2), some (.int v3), some (.int v4)] [] (shH τ σ) (some (.int z.1)) (shH τ z.2) := by
  intro n0
  induction n0 with
  | zero =>
    intro v1 v2 v3 v4 σ τ z  h
    unfold Mo_needless_b17 at h
    cases h
  | succ n1 ih =>
    intro v1 v2 v3 v4 σ τ z  h
    unfold Mo_needless_b17 at h
    refine pmSeg_U (pc' := 22) (ls' := [some (.ref 112), some (.int v1), some (.int v2), some (.int v3), some (.int v4)]) (st' := [.int 2048, .int v4]) 2 rfl ?_
    refine pu_icmpP (tg := 60) h rfl rfl rfl (fun h => ?_) (fun h => ?_)
    · refine pmSeg_U (pc' := 60) (ls' := [some (.ref 112), some (.int v1), some (.int v2), some (.int v3), some (.int v4)]) (st' := []) 0 rfl ?_
      refine pmU_le (a := [none, none, none, some (.int v3), none]) (le_v rfl (le_v rfl (le_v rfl (le_s (le_v rfl le_nil))))) ?_
      exact L_Mo_needless_b60 d h
    · refine pmSeg_U (pc' := 26) (ls' := [some (.ref 112), some (.int v1), some (.int v2), some (.int v3), some (.int v4)]) (st' := [.int v3]) 1 rfl ?_
      refine pu_ifP (tg := 60) h rfl rfl rfl (fun h => ?_) (fun h => ?_)
      · refine pmSeg_U (pc' := 60) (ls' := [some (.ref 112), some (.int v1), some (.int v2), some (.int v3), some (.int v4)]) (st' := []) 0 rfl ?_
        refine pmU_le (a := [none, none, none, some (.int v3), none]) (le_v rfl (le_v rfl (le_v rfl (le_s (le_v rfl le_nil))))) ?_
        exact L_Mo_needless_b60 d h
      · refine pmSeg_U (pc' := 34) (ls' := [some (.ref 112), some (.int v1), some (.int v2), some (.int v3), some (.int v4)]) (st' := [.int (-1), .int v4, .int v1, .ref 112]) 4 rfl ?_
        obtain ⟨q34, hq34, h⟩ := bd_in h
        refine pmU_C (av := [.ref 112, .int v1, .int v4, .int (-1)]) (rest := []) rfl rfl rfl rfl rfl (L_Mo_allowed (d + 0) hq34) ?_
        refine pmSeg_U (pc' := 42) (ls' := [some (.ref 112), some (.int v1), some (.int v2), some (.int v3), some (.int v4)]) (st' := [.int v2, .int v4, .int v1, .ref 112, .int q34.1]) 4 rfl ?_
        obtain ⟨q42, hq42, h⟩ := bd_in h
        refine pmU_C (av := [.ref 112, .int v1, .int v4, .int v2]) (rest := [.int q34.1]) rfl rfl rfl rfl rfl (L_Mo_allowed (d + 0) hq42) ?_
        refine pmSeg_U (pc' := 45) (ls' := [some (.ref 112), some (.int v1), some (.int v2), some (.int v3), some (.int v4)]) (st' := [.int q42.1, .int q34.1]) 0 rfl ?_
        refine pu_icmpP (tg := 52) h rfl rfl rfl (fun h => ?_) (fun h => ?_)
        · refine pmSeg_U (pc' := 17) (ls' := [some (.ref 112), some (.int v1), some (.int v2), some (.int 0), some (.int (v4 + 1))]) (st' := []) 4 rfl ?_
          exact ih h
        · refine pmSeg_U (pc' := 17) (ls' := [some (.ref 112), some (.int v1), some (.int v2), some (.int 1), some (.int (v4 + 1))]) (st' := []) 5 rfl ?_
          exact ih h
