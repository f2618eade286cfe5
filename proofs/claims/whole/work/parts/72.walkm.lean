theorem L_Mo_readConditions_b161 {S : pmS} (d : Nat)   {k5 : Int32 → Mem → Option Mem} {k98 : Int32 → Mem → Option Mem} (Hk5 : ∀ {v1 : Int32} {σ τ : Mem} {z : Mem}, k5 v1 σ = some z → pmU S (d + 7) 115 5 [some (.ref 112), some (.int v1), none, none, none] [] (shH τ σ) none (shH τ z)) (Hk98 : ∀ {v2 : Int32} {σ τ : Mem} {z : Mem}, k98 v2 σ = some z → pmU S (d + 7) 115 98 [some (.ref 112), none, some (.int v2), none, none] [] (shH τ σ) none (shH τ z)) {s0 : Int32} {σ τ : Mem} {z : Mem}  (h : Mo_readConditions_b161 k5 k98 s0 σ = some z) : pmU S (d + 7) 115 161 [some (.ref 112), none, none, none, none] [.int s0] (shH τ σ) none (shH τ z) := by
  unfold Mo_readConditions_b161 at h
  refine pmSeg_U (pc' := 167) (ls' := [some (.ref 112), none, none, none, some (.int s0)]) (st' := [.int 43, .int s0]) 3 rfl ?_
  refine pu_icmpP (tg := 199) h rfl rfl rfl (fun h => ?_) (fun h => ?_)
  · refine pmSeg_U (pc' := 98) (ls' := [some (.ref 112), none, some (.int 1), none, some (.int s0)]) (st' := []) 4 rfl ?_
    refine pmU_le (a := [some (.ref 112), none, some (.int 1), none, none]) (le_s (le_s (le_s (le_s (le_v rfl le_nil))))) ?_
    exact Hk98 h
  · refine pmSeg_U (pc' := 174) (ls' := [some (.ref 112), none, none, none, some (.int s0)]) (st' := [.int 45, .int s0]) 2 rfl ?_
    refine pu_icmpP (tg := 199) h rfl rfl rfl (fun h => ?_) (fun h => ?_)
    · refine pmSeg_U (pc' := 98) (ls' := [some (.ref 112), none, some (.int 1), none, some (.int s0)]) (st' := []) 4 rfl ?_
      refine pmU_le (a := [some (.ref 112), none, some (.int 1), none, none]) (le_s (le_s (le_s (le_s (le_v rfl le_nil))))) ?_
      exact Hk98 h
    · refine pmSeg_U (pc' := 179) (ls' := [some (.ref 112), none, none, none, some (.int s0)]) (st' := [.int s0]) 1 rfl ?_
      refine pmU_C (av := [.int s0]) (rest := []) rfl rfl rfl rfl rfl (L_Mo_isComparing (d + 6)) ?_
      refine pmSeg_U (pc' := 182) (ls' := [some (.ref 112), none, none, none, some (.int s0)]) (st' := [.int (Mo_isComparing s0)]) 0 rfl ?_
      refine pu_ifP (tg := 199) h rfl rfl rfl (fun h => ?_) (fun h => ?_)
      · refine pmSeg_U (pc' := 98) (ls' := [some (.ref 112), none, some (.int 1), none, some (.int s0)]) (st' := []) 4 rfl ?_
        refine pmU_le (a := [some (.ref 112), none, some (.int 1), none, none]) (le_s (le_s (le_s (le_s (le_v rfl le_nil))))) ?_
        exact Hk98 h
      · refine pmSeg_U (pc' := 189) (ls' := [some (.ref 112), none, none, none, some (.int s0)]) (st' := [.int 38, .int s0]) 2 rfl ?_
        refine pu_icmpP (tg := 199) h rfl rfl rfl (fun h => ?_) (fun h => ?_)
        · refine pmSeg_U (pc' := 98) (ls' := [some (.ref 112), none, some (.int 1), none, some (.int s0)]) (st' := []) 4 rfl ?_
          refine pmU_le (a := [some (.ref 112), none, some (.int 1), none, none]) (le_s (le_s (le_s (le_s (le_v rfl le_nil))))) ?_
          exact Hk98 h
        · refine pmSeg_U (pc' := 196) (ls' := [some (.ref 112), none, none, none, some (.int s0)]) (st' := [.int 124, .int s0]) 2 rfl ?_
          refine pu_icmpP (tg := 203) h rfl rfl rfl (fun h => ?_) (fun h => ?_)
          · refine pmSeg_U (pc' := 98) (ls' := [some (.ref 112), none, some (.int 0), none, some (.int s0)]) (st' := []) 3 rfl ?_
            refine pmU_le (a := [some (.ref 112), none, some (.int 0), none, none]) (le_s (le_s (le_s (le_s (le_v rfl le_nil))))) ?_
            exact Hk98 h
          · refine pmSeg_U (pc' := 98) (ls' := [some (.ref 112), none, some (.int 1), none, some (.int s0)]) (st' := []) 4 rfl ?_
            refine pmU_le (a := [some (.ref 112), none, some (.int 1), none, none]) (le_s (le_s (le_s (le_s (le_v rfl le_nil))))) ?_
            exact Hk98 h
theorem L_Mo_readConditions_b160 {S : pmS} (d : Nat)   {k5 : Int32 → Mem → Option Mem} {k98 : Int32 → Mem → Option Mem} (Hk5 : ∀ {v1 : Int32} {σ τ : Mem} {z : Mem}, k5 v1 σ = some z → pmU S (d + 7) 115 5 [some (.ref 112), some (.int v1), none, none, none] [] (shH τ σ) none (shH τ z)) (Hk98 : ∀ {v2 : Int32} {σ τ : Mem} {z : Mem}, k98 v2 σ = some z → pmU S (d + 7) 115 98 [some (.ref 112), none, some (.int v2), none, none] [] (shH τ σ) none (shH τ z))  {σ τ : Mem} {z : Mem}  (h : Mo_readConditions_b160 k5 k98 σ = some z) : pmU S (d + 7) 115 160 [some (.ref 112), none, none, none, none] [] (shH τ σ) none (shH τ z) := by
  unfold Mo_readConditions_b160 at h
  refine pmSeg_U (pc' := 161) (ls' := [some (.ref 112), none, none, none, none]) (st' := [.int 0]) 1 rfl ?_
  exact L_Mo_readConditions_b161 d Hk5 Hk98 h
theorem L_Mo_readConditions_b136 {S : pmS} (d : Nat)   {k5 : Int32 → Mem → Option Mem} {k98 : Int32 → Mem → Option Mem} (Hk5 : ∀ {v1 : Int32} {σ τ : Mem} {z : Mem}, k5 v1 σ = some z → pmU S (d + 7) 115 5 [some (.ref 112), some (.int v1), none, none, none] [] (shH τ σ) none (shH τ z)) (Hk98 : ∀ {v2 : Int32} {σ τ : Mem} {z : Mem}, k98 v2 σ = some z → pmU S (d + 7) 115 98 [some (.ref 112), none, some (.int v2), none, none] [] (shH τ σ) none (shH τ z)) {v3 : Int32} {σ τ : Mem} {z : Mem}  (h : Mo_readConditions_b136 k5 k98 v3 σ = some z) : pmU S (d + 7) 115 136 [some (.ref 112), none, none, some (.int v3), none] [] (shH τ σ) none (shH τ z) := by
  unfold Mo_readConditions_b136 at h
  refine pmSeg_U (pc' := 140) (ls' := [some (.ref 112), none, none, some (.int v3), none]) (st' := [.int (σ 0 15)]) 2 rfl ?_
  refine pu_ifP (tg := 160) h rfl rfl rfl (fun h => ?_) (fun h => ?_)
  · refine pmSeg_U (pc' := 160) (ls' := [some (.ref 112), none, none, some (.int v3), none]) (st' := []) 0 rfl ?_
    refine pmU_le (a := [some (.ref 112), none, none, none, none]) (le_s (le_s (le_s (le_v rfl (le_s le_nil))))) ?_
    exact L_Mo_readConditions_b160 d Hk5 Hk98 h
  · refine pmSeg_U (pc' := 148) (ls' := [some (.ref 112), none, none, some (.int v3), none]) (st' := [.int v3, .int (σ 0 14)]) 3 rfl ?_
    refine pu_icmpP (tg := 160) h rfl rfl rfl (fun h => ?_) (fun h => ?_)
    · refine pmSeg_U (pc' := 160) (ls' := [some (.ref 112), none, none, some (.int v3), none]) (st' := []) 0 rfl ?_
      refine pmU_le (a := [some (.ref 112), none, none, none, none]) (le_s (le_s (le_s (le_v rfl (le_s le_nil))))) ?_
      exact L_Mo_readConditions_b160 d Hk5 Hk98 h
    · obtain ⟨g1, h⟩ := gd_in h
      refine pmSeg_U (pc' := 156) (ls' := [some (.ref 112), none, none, some (.int v3), none]) (st' := [.int v3, .ref 117]) 3 rfl ?_
      refine pu_iald rfl rfl g1 (shp_iM (c := 5) rfl) ?_
      refine pmSeg_U (pc' := 161) (ls' := [some (.ref 112), none, none, some (.int v3), none]) (st' := [.int (σ 5 v3.toNatClampNeg)]) 1 rfl ?_
      refine pmU_le (a := [some (.ref 112), none, none, none, none]) (le_s (le_s (le_s (le_v rfl (le_s le_nil))))) ?_
      exact L_Mo_readConditions_b161 d Hk5 Hk98 h
theorem L_Mo_readConditions_b120 {S : pmS} (d : Nat)   {k5 : Int32 → Mem → Option Mem} {k98 : Int32 → Mem → Option Mem} (Hk5 : ∀ {v1 : Int32} {σ τ : Mem} {z : Mem}, k5 v1 σ = some z → pmU S (d + 7) 115 5 [some (.ref 112), some (.int v1), none, none, none] [] (shH τ σ) none (shH τ z)) (Hk98 : ∀ {v2 : Int32} {σ τ : Mem} {z : Mem}, k98 v2 σ = some z → pmU S (d + 7) 115 98 [some (.ref 112), none, some (.int v2), none, none] [] (shH τ σ) none (shH τ z))  {σ τ : Mem} {z : Mem}  (h : Mo_readConditions_b120 k5 k98 σ = some z) : pmU S (d + 7) 115 120 [some (.ref 112), none, none, none, none] [] (shH τ σ) none (shH τ z) := by
  unfold Mo_readConditions_b120 at h
  refine pmSeg_U (pc' := 129) (ls' := [some (.ref 112), none, none, some (.int (σ 0 14)), none]) (st' := [.int (σ 0 15)]) 5 rfl ?_
  refine pu_ifP (tg := 136) h rfl rfl rfl (fun h => ?_) (fun h => ?_)
  · refine pmSeg_U (pc' := 136) (ls' := [some (.ref 112), none, none, some (.int (σ 0 14)), none]) (st' := []) 0 rfl ?_
    exact L_Mo_readConditions_b136 d Hk5 Hk98 h
  · refine pmSeg_U (pc' := 133) (ls' := [some (.ref 112), none, none, some (.int (σ 0 14)), none]) (st' := [.ref 112]) 1 rfl ?_
    obtain ⟨q133, hq133, h⟩ := bd_in h
    refine pmU_C (av := [.ref 112]) (rest := []) rfl rfl rfl rfl rfl (L_Mo_goOn (d + 0) hq133) ?_
    refine pmSeg_U (pc' := 136) (ls' := [some (.ref 112), none, none, some (.int (σ 0 14)), none]) (st' := []) 0 rfl ?_
    exact L_Mo_readConditions_b136 d Hk5 Hk98 h
theorem L_Mo_readConditions_b98 {S : pmS} (d : Nat)   {k5 : Int32 → Mem → Option Mem} (Hk5 : ∀ {v1 : Int32} {σ τ : Mem} {z : Mem}, k5 v1 σ = some z → pmU S (d + 7) 115 5 [some (.ref 112), some (.int v1), none, none, none] [] (shH τ σ) none (shH τ z)) : ∀ (n0 : Nat) {v2 : Int32} {σ τ : Mem} {z : Mem}, Mo_readConditions_b98 k5 n0 v2 σ = some z → pmU S (d + 7) 115 98 [some (.ref 112), none, some (.int v2), none, none] [] (shH τ σ) none (shH τ z) := by
  intro n0
  induction n0 with
  | zero =>
    intro v2 σ τ z  h
    unfold Mo_readConditions_b98 at h
    cases h
  | succ n1 ih =>
    intro v2 σ τ z  h
    unfold Mo_readConditions_b98 at h
    refine pmSeg_U (pc' := 102) (ls' := [some (.ref 112), none, some (.int v2), none, none]) (st' := [.int (σ 0 17)]) 2 rfl ?_
    refine pu_ifP (tg := 208) h rfl rfl rfl (fun h => ?_) (fun h => ?_)
    · refine pmSeg_U (pc' := 208) (ls' := [some (.ref 112), none, some (.int v2), none, none]) (st' := []) 0 rfl ?_
      refine pmU_le (a := [some (.ref 112), none, none, none, none]) (le_s (le_s (le_v rfl (le_s (le_s le_nil))))) ?_
      exact L_Mo_readConditions_b208 d Hk5 h
    · refine pmSeg_U (pc' := 109) (ls' := [some (.ref 112), none, some (.int v2), none, none]) (st' := [.int (σ 0 15)]) 2 rfl ?_
      refine pu_ifP (tg := 208) h rfl rfl rfl (fun h => ?_) (fun h => ?_)
      · refine pmSeg_U (pc' := 208) (ls' := [some (.ref 112), none, some (.int v2), none, none]) (st' := []) 0 rfl ?_
        refine pmU_le (a := [some (.ref 112), none, none, none, none]) (le_s (le_s (le_v rfl (le_s (le_s le_nil))))) ?_
        exact L_Mo_readConditions_b208 d Hk5 h
      · refine pmSeg_U (pc' := 113) (ls' := [some (.ref 112), none, some (.int v2), none, none]) (st' := [.int v2]) 1 rfl ?_
        refine pu_ifP (tg := 120) h rfl rfl rfl (fun h => ?_) (fun h => ?_)
        · refine pmSeg_U (pc' := 120) (ls' := [some (.ref 112), none, some (.int v2), none, none]) (st' := []) 0 rfl ?_
          refine pmU_le (a := [some (.ref 112), none, none, none, none]) (le_s (le_s (le_v rfl (le_s (le_s le_nil))))) ?_
          exact L_Mo_readConditions_b120 d Hk5 ih h
        · refine pmSeg_U (pc' := 117) (ls' := [some (.ref 112), none, some (.int v2), none, none]) (st' := [.ref 112]) 1 rfl ?_
          obtain ⟨q117, hq117, h⟩ := bd_in h
          refine pmU_C (av := [.ref 112]) (rest := []) rfl rfl rfl rfl rfl (L_Mo_readTerm (d + 3) hq117) ?_
          refine pmSeg_U (pc' := 120) (ls' := [some (.ref 112), none, some (.int v2), none, none]) (st' := []) 0 rfl ?_
          refine pmU_le (a := [some (.ref 112), none, none, none, none]) (le_s (le_s (le_v rfl (le_s (le_s le_nil))))) ?_
          exact L_Mo_readConditions_b120 d Hk5 ih h
theorem L_Mo_readConditions_b87 {S : pmS} (d : Nat)   {k5 : Int32 → Mem → Option Mem} (Hk5 : ∀ {v1 : Int32} {σ τ : Mem} {z : Mem}, k5 v1 σ = some z → pmU S (d + 7) 115 5 [some (.ref 112), some (.int v1), none, none, none] [] (shH τ σ) none (shH τ z)) {s1 : Int32} {s2 : Int32} {σ τ : Mem} {z : Mem}  (h : Mo_readConditions_b87 k5 s1 s2 σ = some z) : pmU S (d + 7) 115 87 [some (.ref 112), none, none, none, none] [.int s2, .int s1, .ref 128] (shH τ σ) none (shH τ z) := by
  unfold Mo_readConditions_b87 at h
  obtain ⟨g1, h⟩ := gd_in h
  refine pmSeg_U (pc' := 87) (ls' := [some (.ref 112), none, none, none, none]) (st' := [.int s2, .int s1, .ref 128]) 0 rfl ?_
  refine pu_iast rfl rfl g1 (shp_pM (c := 16) rfl) ?_
  refine pmSeg_U (pc' := 93) (ls' := [some (.ref 112), none, none, none, none]) (st' := [.int ((mput σ 16 s1.toNatClampNeg s2) 0 16), .ref 112]) 3 rfl ?_
  obtain ⟨q93, hq93, h⟩ := bd_in h
  refine pmU_C (av := [.ref 112, .int ((mput σ 16 s1.toNatClampNeg s2) 0 16)]) (rest := []) rfl rfl rfl rfl rfl (L_Mo_beginRow (d + 6) hq93) ?_
  refine pmSeg_U (pc' := 98) (ls' := [some (.ref 112), none, some (.int 1), none, none]) (st' := []) 2 rfl ?_
  exact L_Mo_readConditions_b98 d Hk5 FU h
theorem L_Mo_readConditions_b51 {S : pmS} (d : Nat)   {k5 : Int32 → Mem → Option Mem} (Hk5 : ∀ {v1 : Int32} {σ τ : Mem} {z : Mem}, k5 v1 σ = some z → pmU S (d + 7) 115 5 [some (.ref 112), some (.int v1), none, none, none] [] (shH τ σ) none (shH τ z)) {v1 : Int32} {σ τ : Mem} {z : Mem}  (h : Mo_readConditions_b51 k5 v1 σ = some z) : pmU S (d + 7) 115 51 [some (.ref 112), some (.int v1), none, none, none] [] (shH τ σ) none (shH τ z) := by
  unfold Mo_readConditions_b51 at h
  refine pmSeg_U (pc' := 58) (ls' := [some (.ref 112), some (.int v1), none, none, none]) (st' := [.int ((σ 0 14) + 1), .ref 112]) 5 rfl ?_
  refine pu_put rfl rfl rfl rfl rfl (shp_pM (c := 0) rfl) ?_
  refine pmSeg_U (pc' := 63) (ls' := [some (.ref 112), some (.int v1), none, none, none]) (st' := [.int (-1), .ref 112]) 2 rfl ?_
  refine pu_put rfl rfl rfl rfl rfl (shp_pM (c := 0) rfl) ?_
  refine pmSeg_U (pc' := 68) (ls' := [some (.ref 112), some (.int v1), none, none, none]) (st' := [.int 1, .ref 112]) 2 rfl ?_
  obtain ⟨q68, hq68, h⟩ := bd_in h
  refine pmU_C (av := [.ref 112, .int 1]) (rest := []) rfl rfl rfl rfl rfl (L_Mo_opn (d + 6) hq68) ?_
  refine pmSeg_U (pc' := 79) (ls' := [some (.ref 112), some (.int v1), none, none, none]) (st' := [.int 63, .int v1, .int 0, .ref 128]) 5 rfl ?_
  refine pu_icmpP (tg := 86) h rfl rfl rfl (fun h => ?_) (fun h => ?_)
  · refine pmSeg_U (pc' := 87) (ls' := [some (.ref 112), some (.int v1), none, none, none]) (st' := [.int 1, .int 0, .ref 128]) 1 rfl ?_
    refine pmU_le (a := [some (.ref 112), none, none, none, none]) (le_s (le_v rfl (le_s (le_s (le_s le_nil))))) ?_
    exact L_Mo_readConditions_b87 d Hk5 h
  · refine pmSeg_U (pc' := 87) (ls' := [some (.ref 112), some (.int v1), none, none, none]) (st' := [.int 0, .int 0, .ref 128]) 2 rfl ?_
    refine pmU_le (a := [some (.ref 112), none, none, none, none]) (le_s (le_v rfl (le_s (le_s (le_s le_nil))))) ?_
    exact L_Mo_readConditions_b87 d Hk5 h
theorem L_Mo_readConditions_b24 {S : pmS} (d : Nat)   {k5 : Int32 → Mem → Option Mem} (Hk5 : ∀ {v1 : Int32} {σ τ : Mem} {z : Mem}, k5 v1 σ = some z → pmU S (d + 7) 115 5 [some (.ref 112), some (.int v1), none, none, none] [] (shH τ σ) none (shH τ z)) {v1 : Int32} {σ τ : Mem} {z : Mem}  (h : Mo_readConditions_b24 k5 v1 σ = some z) : pmU S (d + 7) 115 24 [some (.ref 112), some (.int v1), none, none, none] [] (shH τ σ) none (shH τ z) := by
  unfold Mo_readConditions_b24 at h
  refine pmSeg_U (pc' := 31) (ls' := [some (.ref 112), some (.int v1), none, none, none]) (st' := [.int ((σ 0 14) + 1), .ref 112]) 5 rfl ?_
  refine pu_put rfl rfl rfl rfl rfl (shp_pM (c := 0) rfl) ?_
  refine pmSeg_U (pc' := 35) (ls' := [some (.ref 112), some (.int v1), none, none, none]) (st' := [.ref 112]) 1 rfl ?_
  obtain ⟨q35, hq35, h⟩ := bd_in h
  refine pmU_C (av := [.ref 112]) (rest := []) rfl rfl rfl rfl rfl (L_Mo_here (d + 5) hq35) ?_
  refine pmSeg_U (pc' := 40) (ls' := [some (.ref 112), some (.int v1), none, none, none]) (st' := [.int 123, .int q35.1]) 1 rfl ?_
  refine pu_icmpP (tg := 51) h rfl rfl rfl (fun h => ?_) (fun h => ?_)
  · refine pmSeg_U (pc' := 51) (ls' := [some (.ref 112), some (.int v1), none, none, none]) (st' := []) 0 rfl ?_
    exact L_Mo_readConditions_b51 d Hk5 h
  · refine pmSeg_U (pc' := 48) (ls' := [some (.ref 112), some (.int v1), none, none, none]) (st' := [.int (q35.2 0 14), .ref 112]) 3 rfl ?_
    obtain ⟨q48, hq48, h⟩ := bd_in h
    refine pmU_C (av := [.ref 112, .int (q35.2 0 14)]) (rest := []) rfl rfl rfl rfl rfl (L_Mo_blame (d + 6) hq48) ?_
    refine pmSeg_U (pc' := 51) (ls' := [some (.ref 112), some (.int v1), none, none, none]) (st' := []) 0 rfl ?_
    exact L_Mo_readConditions_b51 d Hk5 h
theorem L_Mo_readConditions_b5 {S : pmS} (d : Nat)    : ∀ (n0 : Nat) {v1 : Int32} {σ τ : Mem} {z : Mem}, Mo_readConditions_b5 n0 v1 σ = some z → pmU S (d + 7) 115 5 [some (.ref 112), some (.int v1), none, none, none] [] (shH τ σ) none (shH τ z) := by
  intro n0
  induction n0 with
  | zero =>
    intro v1 σ τ z  h
    unfold Mo_readConditions_b5 at h
    cases h
  | succ n1 ih =>
    intro v1 σ τ z  h
    unfold Mo_readConditions_b5 at h
    refine pmSeg_U (pc' := 9) (ls' := [some (.ref 112), some (.int v1), none, none, none]) (st' := [.int (σ 0 15)]) 2 rfl ?_
    refine pu_ifP (tg := 227) h rfl rfl rfl (fun h => ?_) (fun h => ?_)
    · refine pmSeg_U (pc' := 227) (ls' := [some (.ref 112), some (.int v1), none, none, none]) (st' := []) 0 rfl ?_
      exact L_Mo_readConditions_b227 d h
    · refine pmSeg_U (pc' := 15) (ls' := [some (.ref 112), some (.int v1), none, none, none]) (st' := [.int 63, .int v1]) 2 rfl ?_
      refine pu_icmpP (tg := 24) h rfl rfl rfl (fun h => ?_) (fun h => ?_)
      · refine pmSeg_U (pc' := 24) (ls' := [some (.ref 112), some (.int v1), none, none, none]) (st' := []) 0 rfl ?_
        exact L_Mo_readConditions_b24 d ih h
      · refine pmSeg_U (pc' := 21) (ls' := [some (.ref 112), some (.int v1), none, none, none]) (st' := [.int 33, .int v1]) 2 rfl ?_
        refine pu_icmpP (tg := 227) h rfl rfl rfl (fun h => ?_) (fun h => ?_)
        · refine pmSeg_U (pc' := 227) (ls' := [some (.ref 112), some (.int v1), none, none, none]) (st' := []) 0 rfl ?_
          exact L_Mo_readConditions_b227 d h
        · refine pmSeg_U (pc' := 24) (ls' := [some (.ref 112), some (.int v1), none, none, none]) (st' := []) 0 rfl ?_
          exact L_Mo_readConditions_b24 d ih h
theorem L_Mo_readConditions {S : pmS} (d : Nat)  {σ τ : Mem} {z : Mem}  (h : Mo_readConditions σ = some z) : pmX S (d + 8) 115 [.ref 112] (shH τ σ) none (shH τ z) := by
  unfold Mo_readConditions at h
  refine pmU_X rfl ?_
  refine pmSeg_U (pc' := 1) (ls' := [some (.ref 112), none, none, none, none]) (st' := [.ref 112]) 1 rfl ?_
  obtain ⟨q1, hq1, h⟩ := bd_in h
  refine pmU_C (av := [.ref 112]) (rest := []) rfl rfl rfl rfl rfl (L_Mo_here (d + 5) hq1) ?_
  refine pmSeg_U (pc' := 5) (ls' := [some (.ref 112), some (.int q1.1), none, none, none]) (st' := []) 1 rfl ?_
  exact L_Mo_readConditions_b5 d FU h
theorem L_Mo_copy_b83 {S : pmS} (d : Nat)    : ∀ (n0 : Nat) {v1 : Int32} {v2 : Int32} {v3 : Int32} {σ τ : Mem} {z : Mem}, Mo_copy_b83 n0 v1 v2 v3 σ = some z → pmU S (d + 0) 130 83 [some (.ref 112), some (.int v1), some (.int v2), some (.int v3)] [] (shH τ σ) none (shH τ z) := by
  intro n0
  induction n0 with
  | zero =>
    intro v1 v2 v3 σ τ z  h
    unfold Mo_copy_b83 at h
    cases h
  | succ n1 ih =>
    intro v1 v2 v3 σ τ z  h
    unfold Mo_copy_b83 at h
    refine pmSeg_U (pc' := 87) (ls' := [some (.ref 112), some (.int v1), some (.int v2), some (.int v3)]) (st' := [.int 160, .int v3]) 2 rfl ?_
    refine pu_icmpP (tg := 144) h rfl rfl rfl (fun h => ?_) (fun h => ?_)
    · refine pmSeg_U (pc' := 144) (ls' := [some (.ref 112), some (.int v1), some (.int v2), some (.int v3)]) (st' := []) 0 rfl ?_
      cases h
      exact pmU_T rfl rfl rfl rfl rfl rfl
    · obtain ⟨g1, h⟩ := gd_in h
      refine pmSeg_U (pc' := 112) (ls' := [some (.ref 112), some (.int v1), some (.int v2), some (.int v3)]) (st' := [.int ((160 * v1) + v3), .ref 124, .int ((160 * v2) + v3), .ref 124]) 14 rfl ?_
      refine pu_iald rfl rfl g1 (shp_iM (c := 12) rfl) ?_
      obtain ⟨g2, h⟩ := gd_in h
      refine pmSeg_U (pc' := 113) (ls' := [some (.ref 112), some (.int v1), some (.int v2), some (.int v3)]) (st' := [.int (σ 12 ((160 * v1) + v3).toNatClampNeg), .int ((160 * v2) + v3), .ref 124]) 0 rfl ?_
      refine pu_iast rfl rfl g2 (shp_pM (c := 12) rfl) ?_
      obtain ⟨g3, h⟩ := gd_in h
      refine pmSeg_U (pc' := 136) (ls' := [some (.ref 112), some (.int v1), some (.int v2), some (.int v3)]) (st' := [.int ((160 * v1) + v3), .ref 125, .int ((160 * v2) + v3), .ref 125]) 14 rfl ?_
      refine pu_iald rfl rfl g3 (shp_iM (c := 13) rfl) ?_
      obtain ⟨g4, h⟩ := gd_in h
      refine pmSeg_U (pc' := 137) (ls' := [some (.ref 112), some (.int v1), some (.int v2), some (.int v3)]) (st' := [.int ((mput σ 12 ((160 * v2) + v3).toNatClampNeg (σ 12 ((160 * v1) + v3).toNatClampNeg)) 13 ((160 * v1) + v3).toNatClampNeg), .int ((160 * v2) + v3), .ref 125]) 0 rfl ?_
      refine pu_iast rfl rfl g4 (shp_pM (c := 13) rfl) ?_
      refine pmSeg_U (pc' := 83) (ls' := [some (.ref 112), some (.int v1), some (.int v2), some (.int (v3 + 1))]) (st' := []) 2 rfl ?_
      exact ih h
theorem L_Mo_copy_b50 {S : pmS} (d : Nat)    : ∀ (n0 : Nat) {v1 : Int32} {v2 : Int32} {v3 : Int32} {σ τ : Mem} {z : Mem}, Mo_copy_b50 n0 v1 v2 v3 σ = some z → pmU S (d + 0) 130 50 [some (.ref 112), some (.int v1), some (.int v2), some (.int v3)] [] (shH τ σ) none (shH τ z) := by
  intro n0
  induction n0 with
  | zero =>
    intro v1 v2 v3 σ τ z  h
    unfold Mo_copy_b50 at h
    cases h
  | succ n1 ih =>
    intro v1 v2 v3 σ τ z  h
    unfold Mo_copy_b50 at h
    refine pmSeg_U (pc' := 52) (ls' := [some (.ref 112), some (.int v1), some (.int v2), some (.int v3)]) (st' := [.int 3, .int v3]) 2 rfl ?_
    refine pu_icmpP (tg := 81) h rfl rfl rfl (fun h => ?_) (fun h => ?_)
    · refine pmSeg_U (pc' := 83) (ls' := [some (.ref 112), some (.int v1), some (.int v2), some (.int 0)]) (st' := []) 2 rfl ?_
      exact L_Mo_copy_b83 d FU h
    · obtain ⟨g1, h⟩ := gd_in h
      refine pmSeg_U (pc' := 73) (ls' := [some (.ref 112), some (.int v1), some (.int v2), some (.int v3)]) (st' := [.int ((3 * v1) + v3), .ref 120, .int ((3 * v2) + v3), .ref 120]) 14 rfl ?_
      refine pu_iald rfl rfl g1 (shp_iM (c := 8) rfl) ?_
      obtain ⟨g2, h⟩ := gd_in h
      refine pmSeg_U (pc' := 74) (ls' := [some (.ref 112), some (.int v1), some (.int v2), some (.int v3)]) (st' := [.int (σ 8 ((3 * v1) + v3).toNatClampNeg), .int ((3 * v2) + v3), .ref 120]) 0 rfl ?_
      refine pu_iast rfl rfl g2 (shp_pM (c := 8) rfl) ?_
      refine pmSeg_U (pc' := 50) (ls' := [some (.ref 112), some (.int v1), some (.int v2), some (.int (v3 + 1))]) (st' := []) 2 rfl ?_
      exact ih h
theorem L_Mo_copy {S : pmS} (d : Nat) {v1 : Int32} {v2 : Int32} {σ τ : Mem} {z : Mem}  (h : Mo_copy v1 v2 σ = some z) : pmX S (d + 1) 130 [.ref 112, .int v1, .int v2] (shH τ σ) none (shH τ z) := by
  unfold Mo_copy at h
  refine pmU_X rfl ?_
  obtain ⟨g1, h⟩ := gd_in h
  refine pmSeg_U (pc' := 10) (ls' := [some (.ref 112), some (.int v1), some (.int v2), none]) (st' := [.int v1, .ref 119, .int v2, .ref 119]) 6 rfl ?_
  refine pu_bald rfl rfl g1 (shp_iM (c := 7) rfl) ?_
  obtain ⟨g2, h⟩ := gd_in h
  obtain ⟨g3, h⟩ := gd_in h
  refine pmSeg_U (pc' := 11) (ls' := [some (.ref 112), some (.int v1), some (.int v2), none]) (st' := [.int (σ 7 v1.toNatClampNeg), .int v2, .ref 119]) 0 rfl ?_
  refine pu_bast rfl rfl g2 g3 (shp_pM (c := 7) rfl) ?_
  obtain ⟨g4, h⟩ := gd_in h
  refine pmSeg_U (pc' := 22) (ls' := [some (.ref 112), some (.int v1), some (.int v2), none]) (st' := [.int v1, .ref 121, .int v2, .ref 121]) 6 rfl ?_
  refine pu_iald rfl rfl g4 (shp_iM (c := 9) rfl) ?_
  obtain ⟨g5, h⟩ := gd_in h
  refine pmSeg_U (pc' := 23) (ls' := [some (.ref 112), some (.int v1), some (.int v2), none]) (st' := [.int ((mput σ 7 v2.toNatClampNeg (σ 7 v1.toNatClampNeg)) 9 v1.toNatClampNeg), .int v2, .ref 121]) 0 rfl ?_
  refine pu_iast rfl rfl g5 (shp_pM (c := 9) rfl) ?_
  obtain ⟨g6, h⟩ := gd_in h
  refine pmSeg_U (pc' := 34) (ls' := [some (.ref 112), some (.int v1), some (.int v2), none]) (st' := [.int v1, .ref 122, .int v2, .ref 122]) 6 rfl ?_
  refine pu_bald rfl rfl g6 (shp_iM (c := 10) rfl) ?_
  obtain ⟨g7, h⟩ := gd_in h
  obtain ⟨g8, h⟩ := gd_in h
  refine pmSeg_U (pc' := 35) (ls' := [some (.ref 112), some (.int v1), some (.int v2), none]) (st' := [.int ((mput (mput σ 7 v2.toNatClampNeg (σ 7 v1.toNatClampNeg)) 9 v2.toNatClampNeg ((mput σ 7 v2.toNatClampNeg (σ 7 v1.toNatClampNeg)) 9 v1.toNatClampNeg)) 10 v1.toNatClampNeg), .int v2, .ref 122]) 0 rfl ?_
  refine pu_bast rfl rfl g7 g8 (shp_pM (c := 10) rfl) ?_
  obtain ⟨g9, h⟩ := gd_in h
  refine pmSeg_U (pc' := 46) (ls' := [some (.ref 112), some (.int v1), some (.int v2), none]) (st' := [.int v1, .ref 123, .int v2, .ref 123]) 6 rfl ?_
  refine pu_iald rfl rfl g9 (shp_iM (c := 11) rfl) ?_
  obtain ⟨g10, h⟩ := gd_in h
  refine pmSeg_U (pc' := 47) (ls' := [some (.ref 112), some (.int v1), some (.int v2), none]) (st' := [.int ((mput (mput (mput σ 7 v2.toNatClampNeg (σ 7 v1.toNatClampNeg)) 9 v2.toNatClampNeg ((mput σ 7 v2.toNatClampNeg (σ 7 v1.toNatClampNeg)) 9 v1.toNatClampNeg)) 10 v2.toNatClampNeg ((mput (mput σ 7 v2.toNatClampNeg (σ 7 v1.toNatClampNeg)) 9 v2.toNatClampNeg ((mput σ 7 v2.toNatClampNeg (σ 7 v1.toNatClampNeg)) 9 v1.toNatClampNeg)) 10 v1.toNatClampNeg)) 11 v1.toNatClampNeg), .int v2, .ref 123]) 0 rfl ?_
  refine pu_iast rfl rfl g10 (shp_pM (c := 11) rfl) ?_
  refine pmSeg_U (pc' := 50) (ls' := [some (.ref 112), some (.int v1), some (.int v2), some (.int 0)]) (st' := []) 2 rfl ?_
  exact L_Mo_copy_b50 d FU h
theorem L_Mo_add_b137 {S : pmS} (d : Nat)    {v1 : Int32} {σ τ : Mem} {z : Int32 × Mem}  (h : Mo_add_b137 v1 σ = some z) : pmU S (d + 8) 111 137 [some (.ref 112), some (.int v1), none, none] [] (shH τ σ) (some (.int z.1)) (shH τ z.2) := by
  unfold Mo_add_b137 at h
  refine pmSeg_U (pc' := 141) (ls' := [some (.ref 112), some (.int v1), none, none]) (st' := [.int (σ 0 15)]) 2 rfl ?_
  refine pu_ifP (tg := 149) h rfl rfl rfl (fun h => ?_) (fun h => ?_)
  · obtain ⟨g1, h⟩ := gd_in h
    refine pmSeg_U (pc' := 154) (ls' := [some (.ref 112), some (.int v1), none, none]) (st' := [.int v1, .ref 118]) 3 rfl ?_
    refine pu_iald rfl rfl g1 (shp_iM (c := 6) rfl) ?_
    refine pmSeg_U (pc' := 157) (ls' := [some (.ref 112), some (.int v1), none, none]) (st' := [.int 8, .int (σ 6 v1.toNatClampNeg)]) 1 rfl ?_
    refine pu_icmpP (tg := 163) h rfl rfl rfl (fun h => ?_) (fun h => ?_)
    · obtain ⟨g2, h⟩ := gd_in h
      refine pmSeg_U (pc' := 175) (ls' := [some (.ref 112), some (.int v1), none, none]) (st' := [.int v1, .ref 118, .int (8 * v1), .int 16, .ref 112]) 8 rfl ?_
      refine pu_iald rfl rfl g2 (shp_iM (c := 6) rfl) ?_
      refine pmSeg_U (pc' := 177) (ls' := [some (.ref 112), some (.int v1), none, none]) (st' := [.int ((8 * v1) + (σ 6 v1.toNatClampNeg)), .int 16, .ref 112]) 1 rfl ?_
      obtain ⟨q177, hq177, h⟩ := bd_in h
      refine pmU_C (av := [.ref 112, .int 16, .int ((8 * v1) + (σ 6 v1.toNatClampNeg))]) (rest := []) rfl rfl rfl rfl rfl (L_Mo_copy (d + 7) hq177) ?_
      obtain ⟨g3, h⟩ := gd_in h
      refine pmSeg_U (pc' := 186) (ls' := [some (.ref 112), some (.int v1), none, none]) (st' := [.int v1, .ref 118, .int v1, .ref 118]) 4 rfl ?_
      refine pu_iald rfl rfl g3 (shp_iM (c := 6) rfl) ?_
      obtain ⟨g4, h⟩ := gd_in h
      refine pmSeg_U (pc' := 189) (ls' := [some (.ref 112), some (.int v1), none, none]) (st' := [.int ((q177 6 v1.toNatClampNeg) + 1), .int v1, .ref 118]) 2 rfl ?_
      refine pu_iast rfl rfl g4 (shp_pM (c := 6) rfl) ?_
      obtain ⟨g5, h⟩ := gd_in h
      refine pmSeg_U (pc' := 195) (ls' := [some (.ref 112), some (.int v1), none, none]) (st' := [.int v1, .ref 118]) 3 rfl ?_
      refine pu_iald rfl rfl g5 (shp_iM (c := 6) rfl) ?_
      refine pmSeg_U (pc' := 198) (ls' := [some (.ref 112), some (.int v1), none, none]) (st' := [.int (((mput q177 6 v1.toNatClampNeg ((q177 6 v1.toNatClampNeg) + 1)) 6 v1.toNatClampNeg) - 1)]) 2 rfl ?_
      cases h
      exact pmU_T rfl rfl rfl rfl rfl rfl
    · refine pmSeg_U (pc' := 162) (ls' := [some (.ref 112), some (.int v1), none, none]) (st' := [.int (-3)]) 1 rfl ?_
      cases h
      exact pmU_T rfl rfl rfl rfl rfl rfl
  · refine pmSeg_U (pc' := 148) (ls' := [some (.ref 112), some (.int v1), none, none]) (st' := [.int (σ 0 15)]) 2 rfl ?_
    cases h
    exact pmU_T rfl rfl rfl rfl rfl rfl
theorem L_Mo_add_b126 {S : pmS} (d : Nat)    {v1 : Int32} {σ τ : Mem} {z : Int32 × Mem}  (h : Mo_add_b126 v1 σ = some z) : pmU S (d + 8) 111 126 [some (.ref 112), some (.int v1), none, none] [] (shH τ σ) (some (.int z.1)) (shH τ z.2) := by
  unfold Mo_add_b126 at h
  refine pmSeg_U (pc' := 130) (ls' := [some (.ref 112), some (.int v1), none, none]) (st' := [.int (σ 0 15)]) 2 rfl ?_
  refine pu_ifP (tg := 137) h rfl rfl rfl (fun h => ?_) (fun h => ?_)
  · refine pmSeg_U (pc' := 137) (ls' := [some (.ref 112), some (.int v1), none, none]) (st' := []) 0 rfl ?_
    exact L_Mo_add_b137 d h
  · refine pmSeg_U (pc' := 134) (ls' := [some (.ref 112), some (.int v1), none, none]) (st' := [.ref 112]) 1 rfl ?_
    obtain ⟨q134, hq134, h⟩ := bd_in h
    refine pmU_C (av := [.ref 112]) (rest := []) rfl rfl rfl rfl rfl (L_Mo_readConditions (d + 0) hq134) ?_
    refine pmSeg_U (pc' := 137) (ls' := [some (.ref 112), some (.int v1), none, none]) (st' := []) 0 rfl ?_
    exact L_Mo_add_b137 d h
theorem L_Mo_add_b103 {S : pmS} (d : Nat)    : ∀ (n0 : Nat) {v1 : Int32} {v3 : Int32} {σ τ : Mem} {z : Int32 × Mem}, Mo_add_b103 n0 v1 v3 σ = some z → pmU S (d + 8) 111 103 [some (.ref 112), some (.int v1), none, some (.int v3)] [] (shH τ σ) (some (.int z.1)) (shH τ z.2) := by
  intro n0
  induction n0 with
  | zero =>
    intro v1 v3 σ τ z  h
    unfold Mo_add_b103 at h
    cases h
  | succ n1 ih =>
    intro v1 v3 σ τ z  h
    unfold Mo_add_b103 at h
    refine pmSeg_U (pc' := 105) (ls' := [some (.ref 112), some (.int v1), none, some (.int v3)]) (st' := [.int 3, .int v3]) 2 rfl ?_
    refine pu_icmpP (tg := 126) h rfl rfl rfl (fun h => ?_) (fun h => ?_)
    · refine pmSeg_U (pc' := 126) (ls' := [some (.ref 112), some (.int v1), none, some (.int v3)]) (st' := []) 0 rfl ?_
      refine pmU_le (a := [some (.ref 112), some (.int v1), none, none]) (le_s (le_s (le_s (le_v rfl le_nil)))) ?_
      exact L_Mo_add_b126 d h
    · refine pmSeg_U (pc' := 112) (ls' := [some (.ref 112), some (.int v1), none, some (.int v3)]) (st' := [.int (σ 0 15)]) 2 rfl ?_
      refine pu_ifP (tg := 126) h rfl rfl rfl (fun h => ?_) (fun h => ?_)
      · refine pmSeg_U (pc' := 126) (ls' := [some (.ref 112), some (.int v1), none, some (.int v3)]) (st' := []) 0 rfl ?_
        refine pmU_le (a := [some (.ref 112), some (.int v1), none, none]) (le_s (le_s (le_s (le_v rfl le_nil)))) ?_
        exact L_Mo_add_b126 d h
      · refine pmSeg_U (pc' := 117) (ls' := [some (.ref 112), some (.int v1), none, some (.int v3)]) (st' := [.int v3, .ref 112]) 2 rfl ?_
        obtain ⟨q117, hq117, h⟩ := bd_in h
        refine pmU_C (av := [.ref 112, .int v3]) (rest := []) rfl rfl rfl rfl rfl (L_Mo_readScope (d + 5) hq117) ?_
        refine pmSeg_U (pc' := 103) (ls' := [some (.ref 112), some (.int v1), none, some (.int (v3 + 1))]) (st' := []) 2 rfl ?_
        exact ih h
theorem L_Mo_add_b95 {S : pmS} (d : Nat)    {v1 : Int32} {s1 : Int32} {s2 : Int32} {σ τ : Mem} {z : Int32 × Mem}  (h : Mo_add_b95 v1 s1 s2 σ = some z) : pmU S (d + 8) 111 95 [some (.ref 112), some (.int v1), none, none] [.int s2, .int s1, .ref 119] (shH τ σ) (some (.int z.1)) (shH τ z.2) := by
  unfold Mo_add_b95 at h
  obtain ⟨g1, h⟩ := gd_in h
  obtain ⟨g2, h⟩ := gd_in h
  refine pmSeg_U (pc' := 95) (ls' := [some (.ref 112), some (.int v1), none, none]) (st' := [.int s2, .int s1, .ref 119]) 0 rfl ?_
  refine pu_bast rfl rfl g1 g2 (shp_pM (c := 7) rfl) ?_
  refine pmSeg_U (pc' := 98) (ls' := [some (.ref 112), some (.int v1), none, none]) (st' := [.int 1, .ref 112]) 2 rfl ?_
  refine pu_put rfl rfl rfl rfl rfl (shp_pM (c := 0) rfl) ?_
  refine pmSeg_U (pc' := 103) (ls' := [some (.ref 112), some (.int v1), none, some (.int 0)]) (st' := []) 2 rfl ?_
  exact L_Mo_add_b103 d FU h
theorem L_Mo_add_b78 {S : pmS} (d : Nat)    {v1 : Int32} {v2 : Int32} {σ τ : Mem} {z : Int32 × Mem}  (h : Mo_add_b78 v1 v2 σ = some z) : pmU S (d + 8) 111 78 [some (.ref 112), some (.int v1), some (.int v2), none] [] (shH τ σ) (some (.int z.1)) (shH τ z.2) := by
  unfold Mo_add_b78 at h
  refine pmSeg_U (pc' := 87) (ls' := [some (.ref 112), some (.int v1), some (.int v2), none]) (st' := [.int 43, .int v2, .int 16, .ref 119]) 5 rfl ?_
  refine pu_icmpP (tg := 94) h rfl rfl rfl (fun h => ?_) (fun h => ?_)
  · refine pmSeg_U (pc' := 95) (ls' := [some (.ref 112), some (.int v1), some (.int v2), none]) (st' := [.int 0, .int 16, .ref 119]) 1 rfl ?_
    refine pmU_le (a := [some (.ref 112), some (.int v1), none, none]) (le_s (le_s (le_v rfl (le_s le_nil)))) ?_
    exact L_Mo_add_b95 d h
  · refine pmSeg_U (pc' := 95) (ls' := [some (.ref 112), some (.int v1), some (.int v2), none]) (st' := [.int 1, .int 16, .ref 119]) 2 rfl ?_
    refine pmU_le (a := [some (.ref 112), some (.int v1), none, none]) (le_s (le_s (le_v rfl (le_s le_nil)))) ?_
    exact L_Mo_add_b95 d h
theorem L_Mo_add {S : pmS} (d : Nat) {v1 : Int32} {σ τ : Mem} {z : Int32 × Mem}  (h : Mo_add v1 σ = some z) : pmX S (d + 9) 111 [.ref 112, .int v1] (shH τ σ) (some (.int z.1)) (shH τ z.2) := by
  unfold Mo_add at h
  refine pmU_X rfl ?_
  refine pmSeg_U (pc' := 1) (ls' := [some (.ref 112), some (.int v1), none, none]) (st' := [.int v1]) 1 rfl ?_
  refine pu_ifP (tg := 9) h rfl rfl rfl (fun h => ?_) (fun h => ?_)
  · refine pmSeg_U (pc' := 11) (ls' := [some (.ref 112), some (.int v1), none, none]) (st' := [.int (-2)]) 1 rfl ?_
    cases h
    exact pmU_T rfl rfl rfl rfl rfl rfl
  · refine pmSeg_U (pc' := 6) (ls' := [some (.ref 112), some (.int v1), none, none]) (st' := [.int 1, .int v1]) 2 rfl ?_
    refine pu_icmpP (tg := 12) h rfl rfl rfl (fun h => ?_) (fun h => ?_)
    · refine pmSeg_U (pc' := 14) (ls' := [some (.ref 112), some (.int v1), none, none]) (st' := [.int 0, .ref 112]) 2 rfl ?_
      refine pu_put rfl rfl rfl rfl rfl (shp_pM (c := 0) rfl) ?_
      refine pmSeg_U (pc' := 19) (ls' := [some (.ref 112), some (.int v1), none, none]) (st' := [.int 0, .ref 112]) 2 rfl ?_
      refine pu_put rfl rfl rfl rfl rfl (shp_pM (c := 0) rfl) ?_
      refine pmSeg_U (pc' := 24) (ls' := [some (.ref 112), some (.int v1), none, none]) (st' := [.int 0, .ref 112]) 2 rfl ?_
      refine pu_put rfl rfl rfl rfl rfl (shp_pM (c := 0) rfl) ?_
      refine pmSeg_U (pc' := 29) (ls' := [some (.ref 112), some (.int v1), none, none]) (st' := [.int (-1), .ref 112]) 2 rfl ?_
      refine pu_put rfl rfl rfl rfl rfl (shp_pM (c := 0) rfl) ?_
      obtain ⟨g1, h⟩ := gd_in h
      refine pmSeg_U (pc' := 39) (ls' := [some (.ref 112), some (.int v1), none, none]) (st' := [.int 0, .int 16, .ref 121]) 4 rfl ?_
      refine pu_iast rfl rfl g1 (shp_pM (c := 9) rfl) ?_
      obtain ⟨g2, h⟩ := gd_in h
      refine pmSeg_U (pc' := 47) (ls' := [some (.ref 112), some (.int v1), none, none]) (st' := [.int 1, .int 16, .ref 122]) 4 rfl ?_
      refine pu_bast rfl rfl g2 rfl (shp_pM (c := 10) rfl) ?_
      obtain ⟨g3, h⟩ := gd_in h
      refine pmSeg_U (pc' := 55) (ls' := [some (.ref 112), some (.int v1), none, none]) (st' := [.int 0, .int 16, .ref 123]) 4 rfl ?_
      refine pu_iast rfl rfl g3 (shp_pM (c := 11) rfl) ?_
      refine pmSeg_U (pc' := 57) (ls' := [some (.ref 112), some (.int v1), none, none]) (st' := [.ref 112]) 1 rfl ?_
      obtain ⟨q57, hq57, h⟩ := bd_in h
      refine pmU_C (av := [.ref 112]) (rest := []) rfl rfl rfl rfl rfl (L_Mo_here (d + 6) hq57) ?_
      refine pmSeg_U (pc' := 64) (ls' := [some (.ref 112), some (.int v1), some (.int q57.1), none]) (st' := [.int 43, .int q57.1]) 3 rfl ?_
      refine pu_icmpP (tg := 78) h rfl rfl rfl (fun h => ?_) (fun h => ?_)
      · refine pmSeg_U (pc' := 78) (ls' := [some (.ref 112), some (.int v1), some (.int q57.1), none]) (st' := []) 0 rfl ?_
        exact L_Mo_add_b78 d h
      · refine pmSeg_U (pc' := 70) (ls' := [some (.ref 112), some (.int v1), some (.int q57.1), none]) (st' := [.int 45, .int q57.1]) 2 rfl ?_
        refine pu_icmpP (tg := 78) h rfl rfl rfl (fun h => ?_) (fun h => ?_)
        · refine pmSeg_U (pc' := 78) (ls' := [some (.ref 112), some (.int v1), some (.int q57.1), none]) (st' := []) 0 rfl ?_
          exact L_Mo_add_b78 d h
        · refine pmSeg_U (pc' := 75) (ls' := [some (.ref 112), some (.int v1), some (.int q57.1), none]) (st' := [.int 0, .ref 112]) 2 rfl ?_
          obtain ⟨q75, hq75, h⟩ := bd_in h
          refine pmU_C (av := [.ref 112, .int 0]) (rest := []) rfl rfl rfl rfl rfl (L_Mo_blame (d + 7) hq75) ?_
          refine pmSeg_U (pc' := 78) (ls' := [some (.ref 112), some (.int v1), some (.int q57.1), none]) (st' := []) 0 rfl ?_
          exact L_Mo_add_b78 d h
    · refine pmSeg_U (pc' := 11) (ls' := [some (.ref 112), some (.int v1), none, none]) (st' := [.int (-2)]) 1 rfl ?_
      cases h
      exact pmU_T rfl rfl rfl rfl rfl rfl
theorem L_Mo_isSet' {S : pmS} (d : Nat) {v1 : Int32} {h0 : pmH} {z : Int32} (h : Mo_isSet v1 = z) : pmX S (d + 1) 133 [.ref 112, .int v1] h0 (some (.int z)) h0 := by
  unfold Mo_isSet at h
  refine pmU_X rfl ?_
  refine pmSeg_U (pc' := 1) (ls' := [some (.ref 112), some (.int v1)]) (st' := [.int v1]) 1 rfl ?_
  refine pu_ifP (tg := 9) h rfl rfl rfl (fun h => ?_) (fun h => ?_)
  · refine pmSeg_U (pc' := 14) (ls' := [some (.ref 112), some (.int v1)]) (st' := [.int 1]) 2 rfl ?_
    cases h
    exact pmU_T rfl rfl rfl rfl rfl rfl
  · refine pmSeg_U (pc' := 6) (ls' := [some (.ref 112), some (.int v1)]) (st' := [.int 1, .int v1]) 2 rfl ?_
    refine pu_icmpP (tg := 13) h rfl rfl rfl (fun h => ?_) (fun h => ?_)
    · refine pmSeg_U (pc' := 14) (ls' := [some (.ref 112), some (.int v1)]) (st' := [.int 0]) 1 rfl ?_
      cases h
      exact pmU_T rfl rfl rfl rfl rfl rfl
    · refine pmSeg_U (pc' := 14) (ls' := [some (.ref 112), some (.int v1)]) (st' := [.int 1]) 2 rfl ?_
      cases h
      exact pmU_T rfl rfl rfl rfl rfl rfl
theorem L_Mo_isSet {S : pmS} (d : Nat) {v1 : Int32} {h0 : pmH} : pmX S (d + 1) 133 [.ref 112, .int v1] h0 (some (.int (Mo_isSet v1))) h0 := L_Mo_isSet' d rfl
theorem bz_Mo_isSet {v1 : Int32} : (Mo_isSet v1 == 0 || Mo_isSet v1 == 1) = true := by
  unfold Mo_isSet
  first | rfl | (split <;> first | rfl | (split <;> first | rfl | (split <;> first | rfl | (split <;> first | rfl | (split <;> first | rfl | (split <;> first | rfl | (split <;> first | rfl | (split <;> first | rfl))))))))
theorem L_Mo_isPolicy {S : pmS} (d : Nat) {v1 : Int32} {v2 : Int32} {σ τ : Mem} {z : Int32}  (h : Mo_isPolicy v1 v2 σ = some z) : pmX S (d + 2) 132 [.ref 112, .int v1, .int v2] (shH τ σ) (some (.int z)) (shH τ σ) := by
  unfold Mo_isPolicy at h
  refine pmU_X rfl ?_
  refine pmSeg_U (pc' := 2) (ls' := [some (.ref 112), some (.int v1), some (.int v2)]) (st' := [.int v1, .ref 112]) 2 rfl ?_
  refine pmU_C (av := [.ref 112, .int v1]) (rest := []) rfl rfl rfl rfl rfl (L_Mo_isSet (d + 0)) ?_
  refine pmSeg_U (pc' := 5) (ls' := [some (.ref 112), some (.int v1), some (.int v2)]) (st' := [.int (Mo_isSet v1)]) 0 rfl ?_
  refine pu_ifP (tg := 26) h rfl rfl rfl (fun h => ?_) (fun h => ?_)
  · refine pmSeg_U (pc' := 27) (ls' := [some (.ref 112), some (.int v1), some (.int v2)]) (st' := [.int 0]) 1 rfl ?_
    cases h
    exact pmU_T rfl rfl rfl rfl rfl rfl
  · refine pmSeg_U (pc' := 9) (ls' := [some (.ref 112), some (.int v1), some (.int v2)]) (st' := [.int v2]) 1 rfl ?_
    refine pu_ifP (tg := 26) h rfl rfl rfl (fun h => ?_) (fun h => ?_)
    · refine pmSeg_U (pc' := 27) (ls' := [some (.ref 112), some (.int v1), some (.int v2)]) (st' := [.int 0]) 1 rfl ?_
      cases h
      exact pmU_T rfl rfl rfl rfl rfl rfl
    · obtain ⟨g1, h⟩ := gd_in h
      refine pmSeg_U (pc' := 18) (ls' := [some (.ref 112), some (.int v1), some (.int v2)]) (st' := [.int v1, .ref 118, .int v2]) 4 rfl ?_
      refine pu_iald rfl rfl g1 (shp_iM (c := 6) rfl) ?_
      refine pmSeg_U (pc' := 19) (ls' := [some (.ref 112), some (.int v1), some (.int v2)]) (st' := [.int (σ 6 v1.toNatClampNeg), .int v2]) 0 rfl ?_
      refine pu_icmpP (tg := 26) h rfl rfl rfl (fun h => ?_) (fun h => ?_)
      · refine pmSeg_U (pc' := 27) (ls' := [some (.ref 112), some (.int v1), some (.int v2)]) (st' := [.int 0]) 1 rfl ?_
        cases h
        exact pmU_T rfl rfl rfl rfl rfl rfl
      · refine pmSeg_U (pc' := 27) (ls' := [some (.ref 112), some (.int v1), some (.int v2)]) (st' := [.int 1]) 2 rfl ?_
        cases h
        exact pmU_T rfl rfl rfl rfl rfl rfl
theorem L_Mo_drop_b29 {S : pmS} (d : Nat)    : ∀ (n0 : Nat) {v1 : Int32} {v3 : Int32} {σ τ : Mem} {z : Int32 × Mem}, Mo_drop_b29 n0 v1 v3 σ = some z → pmU S (d + 2) 131 29 [some (.ref 112), some (.int v1), none, some (.int v3)] [] (shH τ σ) (some (.int z.1)) (shH τ z.2) := by
  intro n0
  induction n0 with
  | zero =>
    intro v1 v3 σ τ z  h
    unfold Mo_drop_b29 at h
    cases h
  | succ n1 ih =>
    intro v1 v3 σ τ z  h
    unfold Mo_drop_b29 at h
    obtain ⟨g1, h⟩ := gd_in h
    refine pmSeg_U (pc' := 39) (ls' := [some (.ref 112), some (.int v1), none, some (.int v3)]) (st' := [.int v1, .ref 118, .int (8 * v1), .int v3]) 7 rfl ?_
    refine pu_iald rfl rfl g1 (shp_iM (c := 6) rfl) ?_
    refine pmSeg_U (pc' := 41) (ls' := [some (.ref 112), some (.int v1), none, some (.int v3)]) (st' := [.int ((8 * v1) + (σ 6 v1.toNatClampNeg)), .int v3]) 1 rfl ?_
    refine pu_icmpP (tg := 58) h rfl rfl rfl (fun h => ?_) (fun h => ?_)
    · obtain ⟨g2, h⟩ := gd_in h
      refine pmSeg_U (pc' := 63) (ls' := [some (.ref 112), some (.int v1), none, some (.int v3)]) (st' := [.int v1, .ref 118]) 3 rfl ?_
      refine pu_iald rfl rfl g2 (shp_iM (c := 6) rfl) ?_
      refine pmSeg_U (pc' := 64) (ls' := [some (.ref 112), some (.int v1), none, some (.int v3)]) (st' := [.int (σ 6 v1.toNatClampNeg)]) 0 rfl ?_
      cases h
      exact pmU_T rfl rfl rfl rfl rfl rfl
    · refine pmSeg_U (pc' := 49) (ls' := [some (.ref 112), some (.int v1), none, some (.int v3)]) (st' := [.int v3, .int (v3 + 1), .ref 112]) 5 rfl ?_
      obtain ⟨q49, hq49, h⟩ := bd_in h
      refine pmU_C (av := [.ref 112, .int (v3 + 1), .int v3]) (rest := []) rfl rfl rfl rfl rfl (L_Mo_copy (d + 1) hq49) ?_
      refine pmSeg_U (pc' := 29) (ls' := [some (.ref 112), some (.int v1), none, some (.int (v3 + 1))]) (st' := []) 2 rfl ?_
      exact ih h
