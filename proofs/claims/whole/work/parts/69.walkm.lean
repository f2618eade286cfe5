theorem L_Mo_readScope_b109 {S : pmS} (d : Nat)    {s1 : Int32} {s2 : Int32} {s3 : Int32} {σ τ : Mem} {z : Mem}  (h : Mo_readScope_b109 s1 s2 s3 σ = some z) : pmU S (d + 2) 114 109 [some (.ref 112), none, none, none, none] [.int s3, .int s2, .int s1, .ref 120] (shH τ σ) none (shH τ z) := by
  unfold Mo_readScope_b109 at h
  refine pmSeg_U (pc' := 114) (ls' := [some (.ref 112), none, none, none, none]) (st' := [.int (s2 + s3), .int s1, .ref 120]) 2 rfl ?_
  exact L_Mo_readScope_b114 d h
theorem L_Mo_readScope_b83 {S : pmS} (d : Nat)    {v1 : Int32} {v2 : Int32} {v3 : Int32} {v4 : Int32} {σ τ : Mem} {z : Mem}  (h : Mo_readScope_b83 v1 v2 v3 v4 σ = some z) : pmU S (d + 2) 114 83 [some (.ref 112), some (.int v1), some (.int v2), some (.int v3), some (.int v4)] [] (shH τ σ) none (shH τ z) := by
  unfold Mo_readScope_b83 at h
  refine pmSeg_U (pc' := 93) (ls' := [some (.ref 112), some (.int v1), some (.int v2), some (.int v3), some (.int v4)]) (st' := [.int v4, .int (48 + v1), .ref 120]) 6 rfl ?_
  refine pu_ifP (tg := 113) h rfl rfl rfl (fun h => ?_) (fun h => ?_)
  · refine pmSeg_U (pc' := 114) (ls' := [some (.ref 112), some (.int v1), some (.int v2), some (.int v3), some (.int v4)]) (st' := [.int (-1), .int (48 + v1), .ref 120]) 1 rfl ?_
    refine pmU_le (a := [some (.ref 112), none, none, none, none]) (le_s (le_v rfl (le_v rfl (le_v rfl (le_v rfl le_nil))))) ?_
    exact L_Mo_readScope_b114 d h
  · refine pmSeg_U (pc' := 101) (ls' := [some (.ref 112), some (.int v1), some (.int v2), some (.int v3), some (.int v4)]) (st' := [.int v3, .int (v2 - 48), .int (48 + v1), .ref 120]) 4 rfl ?_
    refine pu_ifP (tg := 108) h rfl rfl rfl (fun h => ?_) (fun h => ?_)
    · refine pmSeg_U (pc' := 109) (ls' := [some (.ref 112), some (.int v1), some (.int v2), some (.int v3), some (.int v4)]) (st' := [.int 0, .int (v2 - 48), .int (48 + v1), .ref 120]) 1 rfl ?_
      refine pmU_le (a := [some (.ref 112), none, none, none, none]) (le_s (le_v rfl (le_v rfl (le_v rfl (le_v rfl le_nil))))) ?_
      exact L_Mo_readScope_b109 d h
    · refine pmSeg_U (pc' := 109) (ls' := [some (.ref 112), some (.int v1), some (.int v2), some (.int v3), some (.int v4)]) (st' := [.int 4, .int (v2 - 48), .int (48 + v1), .ref 120]) 2 rfl ?_
      refine pmU_le (a := [some (.ref 112), none, none, none, none]) (le_s (le_v rfl (le_v rfl (le_v rfl (le_v rfl le_nil))))) ?_
      exact L_Mo_readScope_b109 d h
theorem L_Mo_readScope_b75 {S : pmS} (d : Nat)    {v1 : Int32} {v2 : Int32} {v3 : Int32} {v4 : Int32} {σ τ : Mem} {z : Mem}  (h : Mo_readScope_b75 v1 v2 v3 v4 σ = some z) : pmU S (d + 2) 114 75 [some (.ref 112), some (.int v1), some (.int v2), some (.int v3), some (.int v4)] [] (shH τ σ) none (shH τ z) := by
  unfold Mo_readScope_b75 at h
  refine pmSeg_U (pc' := 80) (ls' := [some (.ref 112), some (.int v1), some (.int v2), some (.int v3), some (.int v4)]) (st' := [.int (σ 0 14), .ref 112]) 3 rfl ?_
  obtain ⟨q80, hq80, h⟩ := bd_in h
  refine pmU_C (av := [.ref 112, .int (σ 0 14)]) (rest := []) rfl rfl rfl rfl rfl (L_Mo_blame (d + 1) hq80) ?_
  refine pmSeg_U (pc' := 83) (ls' := [some (.ref 112), some (.int v1), some (.int v2), some (.int v3), some (.int v4)]) (st' := []) 0 rfl ?_
  exact L_Mo_readScope_b83 d h
theorem L_Mo_readScope_b58 {S : pmS} (d : Nat)    {v1 : Int32} {v2 : Int32} {v3 : Int32} {s0 : Int32} {σ τ : Mem} {z : Mem}  (h : Mo_readScope_b58 v1 v2 v3 s0 σ = some z) : pmU S (d + 2) 114 58 [some (.ref 112), some (.int v1), some (.int v2), some (.int v3), none] [.int s0] (shH τ σ) none (shH τ z) := by
  unfold Mo_readScope_b58 at h
  refine pmSeg_U (pc' := 62) (ls' := [some (.ref 112), some (.int v1), some (.int v2), some (.int v3), some (.int s0)]) (st' := [.int s0]) 2 rfl ?_
  refine pu_ifP (tg := 83) h rfl rfl rfl (fun h => ?_) (fun h => ?_)
  · refine pmSeg_U (pc' := 83) (ls' := [some (.ref 112), some (.int v1), some (.int v2), some (.int v3), some (.int s0)]) (st' := []) 0 rfl ?_
    exact L_Mo_readScope_b83 d h
  · refine pmSeg_U (pc' := 66) (ls' := [some (.ref 112), some (.int v1), some (.int v2), some (.int v3), some (.int s0)]) (st' := [.int v3]) 1 rfl ?_
    refine pu_ifP (tg := 75) h rfl rfl rfl (fun h => ?_) (fun h => ?_)
    · refine pmSeg_U (pc' := 75) (ls' := [some (.ref 112), some (.int v1), some (.int v2), some (.int v3), some (.int s0)]) (st' := []) 0 rfl ?_
      exact L_Mo_readScope_b75 d h
    · refine pmSeg_U (pc' := 72) (ls' := [some (.ref 112), some (.int v1), some (.int v2), some (.int v3), some (.int s0)]) (st' := [.int 42, .int v2]) 2 rfl ?_
      refine pu_icmpP (tg := 83) h rfl rfl rfl (fun h => ?_) (fun h => ?_)
      · refine pmSeg_U (pc' := 83) (ls' := [some (.ref 112), some (.int v1), some (.int v2), some (.int v3), some (.int s0)]) (st' := []) 0 rfl ?_
        exact L_Mo_readScope_b83 d h
      · refine pmSeg_U (pc' := 75) (ls' := [some (.ref 112), some (.int v1), some (.int v2), some (.int v3), some (.int s0)]) (st' := []) 0 rfl ?_
        exact L_Mo_readScope_b75 d h
theorem L_Mo_readScope_b57 {S : pmS} (d : Nat)    {v1 : Int32} {v2 : Int32} {v3 : Int32} {σ τ : Mem} {z : Mem}  (h : Mo_readScope_b57 v1 v2 v3 σ = some z) : pmU S (d + 2) 114 57 [some (.ref 112), some (.int v1), some (.int v2), some (.int v3), none] [] (shH τ σ) none (shH τ z) := by
  unfold Mo_readScope_b57 at h
  refine pmSeg_U (pc' := 58) (ls' := [some (.ref 112), some (.int v1), some (.int v2), some (.int v3), none]) (st' := [.int 0]) 1 rfl ?_
  exact L_Mo_readScope_b58 d h
theorem L_Mo_readScope_b41 {S : pmS} (d : Nat)    {v1 : Int32} {v2 : Int32} {v3 : Int32} {σ τ : Mem} {z : Mem}  (h : Mo_readScope_b41 v1 v2 v3 σ = some z) : pmU S (d + 2) 114 41 [some (.ref 112), some (.int v1), some (.int v2), some (.int v3), none] [] (shH τ σ) none (shH τ z) := by
  unfold Mo_readScope_b41 at h
  refine pmSeg_U (pc' := 44) (ls' := [some (.ref 112), some (.int v1), some (.int v2), some (.int v3), none]) (st' := [.int 48, .int v2]) 2 rfl ?_
  refine pu_icmpP (tg := 57) h rfl rfl rfl (fun h => ?_) (fun h => ?_)
  · refine pmSeg_U (pc' := 57) (ls' := [some (.ref 112), some (.int v1), some (.int v2), some (.int v3), none]) (st' := []) 0 rfl ?_
    exact L_Mo_readScope_b57 d h
  · refine pmSeg_U (pc' := 50) (ls' := [some (.ref 112), some (.int v1), some (.int v2), some (.int v3), none]) (st' := [.int 51, .int v2]) 2 rfl ?_
    refine pu_icmpP (tg := 57) h rfl rfl rfl (fun h => ?_) (fun h => ?_)
    · refine pmSeg_U (pc' := 57) (ls' := [some (.ref 112), some (.int v1), some (.int v2), some (.int v3), none]) (st' := []) 0 rfl ?_
      exact L_Mo_readScope_b57 d h
    · refine pmSeg_U (pc' := 58) (ls' := [some (.ref 112), some (.int v1), some (.int v2), some (.int v3), none]) (st' := [.int 1]) 2 rfl ?_
      exact L_Mo_readScope_b58 d h
theorem L_Mo_readScope_b21 {S : pmS} (d : Nat)    {v1 : Int32} {v2 : Int32} {s0 : Int32} {σ τ : Mem} {z : Mem}  (h : Mo_readScope_b21 v1 v2 s0 σ = some z) : pmU S (d + 2) 114 21 [some (.ref 112), some (.int v1), some (.int v2), none, none] [.int s0] (shH τ σ) none (shH τ z) := by
  unfold Mo_readScope_b21 at h
  refine pmSeg_U (pc' := 23) (ls' := [some (.ref 112), some (.int v1), some (.int v2), some (.int s0), none]) (st' := [.int s0]) 2 rfl ?_
  refine pu_ifP (tg := 41) h rfl rfl rfl (fun h => ?_) (fun h => ?_)
  · refine pmSeg_U (pc' := 41) (ls' := [some (.ref 112), some (.int v1), some (.int v2), some (.int s0), none]) (st' := []) 0 rfl ?_
    exact L_Mo_readScope_b41 d h
  · refine pmSeg_U (pc' := 33) (ls' := [some (.ref 112), some (.int v1), some (.int v2), some (.int s0), none]) (st' := [.int ((σ 0 14) + 1), .ref 112]) 5 rfl ?_
    refine pu_put rfl rfl rfl rfl rfl (shp_pM (c := 0) rfl) ?_
    refine pmSeg_U (pc' := 37) (ls' := [some (.ref 112), some (.int v1), some (.int v2), some (.int s0), none]) (st' := [.ref 112]) 1 rfl ?_
    obtain ⟨q37, hq37, h⟩ := bd_in h
    refine pmU_C (av := [.ref 112]) (rest := []) rfl rfl rfl rfl rfl (L_Mo_here (d + 0) hq37) ?_
    refine pmSeg_U (pc' := 41) (ls' := [some (.ref 112), some (.int v1), some (.int q37.1), some (.int s0), none]) (st' := []) 1 rfl ?_
    exact L_Mo_readScope_b41 d h
theorem L_Mo_readScope_b20 {S : pmS} (d : Nat)    {v1 : Int32} {v2 : Int32} {σ τ : Mem} {z : Mem}  (h : Mo_readScope_b20 v1 v2 σ = some z) : pmU S (d + 2) 114 20 [some (.ref 112), some (.int v1), some (.int v2), none, none] [] (shH τ σ) none (shH τ z) := by
  unfold Mo_readScope_b20 at h
  refine pmSeg_U (pc' := 21) (ls' := [some (.ref 112), some (.int v1), some (.int v2), none, none]) (st' := [.int 0]) 1 rfl ?_
  exact L_Mo_readScope_b21 d h
theorem L_Mo_readScope {S : pmS} (d : Nat) {v1 : Int32} {σ τ : Mem} {z : Mem}  (h : Mo_readScope v1 σ = some z) : pmX S (d + 3) 114 [.ref 112, .int v1] (shH τ σ) none (shH τ z) := by
  unfold Mo_readScope at h
  refine pmU_X rfl ?_
  refine pmSeg_U (pc' := 1) (ls' := [some (.ref 112), some (.int v1), none, none, none]) (st' := [.ref 112]) 1 rfl ?_
  obtain ⟨q1, hq1, h⟩ := bd_in h
  refine pmU_C (av := [.ref 112]) (rest := []) rfl rfl rfl rfl rfl (L_Mo_here (d + 0) hq1) ?_
  refine pmSeg_U (pc' := 8) (ls' := [some (.ref 112), some (.int v1), some (.int q1.1), none, none]) (st' := [.int 64, .int q1.1]) 3 rfl ?_
  refine pu_icmpP (tg := 20) h rfl rfl rfl (fun h => ?_) (fun h => ?_)
  · refine pmSeg_U (pc' := 20) (ls' := [some (.ref 112), some (.int v1), some (.int q1.1), none, none]) (st' := []) 0 rfl ?_
    exact L_Mo_readScope_b20 d h
  · refine pmSeg_U (pc' := 13) (ls' := [some (.ref 112), some (.int v1), some (.int q1.1), none, none]) (st' := [.int 1, .int v1]) 2 rfl ?_
    refine pu_icmpP (tg := 20) h rfl rfl rfl (fun h => ?_) (fun h => ?_)
    · refine pmSeg_U (pc' := 20) (ls' := [some (.ref 112), some (.int v1), some (.int q1.1), none, none]) (st' := []) 0 rfl ?_
      exact L_Mo_readScope_b20 d h
    · refine pmSeg_U (pc' := 21) (ls' := [some (.ref 112), some (.int v1), some (.int q1.1), none, none]) (st' := [.int 1]) 2 rfl ?_
      exact L_Mo_readScope_b21 d h
theorem L_Mo_opn {S : pmS} (d : Nat) {v1 : Int32} {σ τ : Mem} {z : Mem}  (h : Mo_opn v1 σ = some z) : pmX S (d + 1) 116 [.ref 112, .int v1] (shH τ σ) none (shH τ z) := by
  unfold Mo_opn at h
  refine pmU_X rfl ?_
  refine pmSeg_U (pc' := 7) (ls' := [some (.ref 112), some (.int v1)]) (st' := [.int ((σ 0 17) + 1), .ref 112]) 5 rfl ?_
  refine pu_put rfl rfl rfl rfl rfl (shp_pM (c := 0) rfl) ?_
  obtain ⟨g1, h⟩ := gd_in h
  refine pmSeg_U (pc' := 19) (ls' := [some (.ref 112), some (.int v1)]) (st' := [.int v1, .int ((mput σ 0 17 ((σ 0 17) + 1)) 0 17), .ref 126]) 5 rfl ?_
  refine pu_iast rfl rfl g1 (shp_pM (c := 14) rfl) ?_
  obtain ⟨g2, h⟩ := gd_in h
  refine pmSeg_U (pc' := 32) (ls' := [some (.ref 112), some (.int v1)]) (st' := [.int ((mput (mput σ 0 17 ((σ 0 17) + 1)) 14 ((mput σ 0 17 ((σ 0 17) + 1)) 0 17).toNatClampNeg v1) 0 14), .int ((mput (mput σ 0 17 ((σ 0 17) + 1)) 14 ((mput σ 0 17 ((σ 0 17) + 1)) 0 17).toNatClampNeg v1) 0 17), .ref 127]) 6 rfl ?_
  refine pu_iast rfl rfl g2 (shp_pM (c := 15) rfl) ?_
  obtain ⟨g3, h⟩ := gd_in h
  refine pmSeg_U (pc' := 42) (ls' := [some (.ref 112), some (.int v1)]) (st' := [.int 0, .int ((mput (mput (mput σ 0 17 ((σ 0 17) + 1)) 14 ((mput σ 0 17 ((σ 0 17) + 1)) 0 17).toNatClampNeg v1) 15 ((mput (mput σ 0 17 ((σ 0 17) + 1)) 14 ((mput σ 0 17 ((σ 0 17) + 1)) 0 17).toNatClampNeg v1) 0 17).toNatClampNeg ((mput (mput σ 0 17 ((σ 0 17) + 1)) 14 ((mput σ 0 17 ((σ 0 17) + 1)) 0 17).toNatClampNeg v1) 0 14)) 0 17), .ref 128]) 5 rfl ?_
  refine pu_iast rfl rfl g3 (shp_pM (c := 16) rfl) ?_
  refine pmSeg_U (pc' := 43) (ls' := [some (.ref 112), some (.int v1)]) (st' := []) 0 rfl ?_
  cases h
  exact pmU_T rfl rfl rfl rfl rfl rfl
theorem L_Mo_beginRow {S : pmS} (d : Nat) {v1 : Int32} {σ τ : Mem} {z : Mem}  (h : Mo_beginRow v1 σ = some z) : pmX S (d + 1) 117 [.ref 112, .int v1] (shH τ σ) none (shH τ z) := by
  unfold Mo_beginRow at h
  refine pmU_X rfl ?_
  obtain ⟨g1, h⟩ := gd_in h
  refine pmSeg_U (pc' := 9) (ls' := [some (.ref 112), some (.int v1)]) (st' := [.int 0, .int (σ 0 17), .ref 135]) 5 rfl ?_
  refine pu_iast rfl rfl g1 (shp_pM (c := 23) rfl) ?_
  obtain ⟨g2, h⟩ := gd_in h
  refine pmSeg_U (pc' := 19) (ls' := [some (.ref 112), some (.int v1)]) (st' := [.int 0, .int ((mput σ 23 (σ 0 17).toNatClampNeg 0) 0 17), .ref 139]) 5 rfl ?_
  refine pu_iast rfl rfl g2 (shp_pM (c := 27) rfl) ?_
  obtain ⟨g3, h⟩ := gd_in h
  refine pmSeg_U (pc' := 29) (ls' := [some (.ref 112), some (.int v1)]) (st' := [.int 0, .int ((mput (mput σ 23 (σ 0 17).toNatClampNeg 0) 27 ((mput σ 23 (σ 0 17).toNatClampNeg 0) 0 17).toNatClampNeg 0) 0 17), .ref 142]) 5 rfl ?_
  refine pu_bast rfl rfl g3 rfl (shp_pM (c := 30) rfl) ?_
  obtain ⟨g4, h⟩ := gd_in h
  refine pmSeg_U (pc' := 39) (ls' := [some (.ref 112), some (.int v1)]) (st' := [.int (-1), .int ((mput (mput (mput σ 23 (σ 0 17).toNatClampNeg 0) 27 ((mput σ 23 (σ 0 17).toNatClampNeg 0) 0 17).toNatClampNeg 0) 30 ((mput (mput σ 23 (σ 0 17).toNatClampNeg 0) 27 ((mput σ 23 (σ 0 17).toNatClampNeg 0) 0 17).toNatClampNeg 0) 0 17).toNatClampNeg 0) 0 17), .ref 146]) 5 rfl ?_
  refine pu_iast rfl rfl g4 (shp_pM (c := 34) rfl) ?_
  obtain ⟨g5, h⟩ := gd_in h
  refine pmSeg_U (pc' := 49) (ls' := [some (.ref 112), some (.int v1)]) (st' := [.int 0, .int ((mput (mput (mput (mput σ 23 (σ 0 17).toNatClampNeg 0) 27 ((mput σ 23 (σ 0 17).toNatClampNeg 0) 0 17).toNatClampNeg 0) 30 ((mput (mput σ 23 (σ 0 17).toNatClampNeg 0) 27 ((mput σ 23 (σ 0 17).toNatClampNeg 0) 0 17).toNatClampNeg 0) 0 17).toNatClampNeg 0) 34 ((mput (mput (mput σ 23 (σ 0 17).toNatClampNeg 0) 27 ((mput σ 23 (σ 0 17).toNatClampNeg 0) 0 17).toNatClampNeg 0) 30 ((mput (mput σ 23 (σ 0 17).toNatClampNeg 0) 27 ((mput σ 23 (σ 0 17).toNatClampNeg 0) 0 17).toNatClampNeg 0) 0 17).toNatClampNeg 0) 0 17).toNatClampNeg (-1)) 0 17), .ref 147]) 5 rfl ?_
  refine pu_bast rfl rfl g5 rfl (shp_pM (c := 35) rfl) ?_
  obtain ⟨g6, h⟩ := gd_in h
  refine pmSeg_U (pc' := 59) (ls' := [some (.ref 112), some (.int v1)]) (st' := [.int (-1), .int ((mput (mput (mput (mput (mput σ 23 (σ 0 17).toNatClampNeg 0) 27 ((mput σ 23 (σ 0 17).toNatClampNeg 0) 0 17).toNatClampNeg 0) 30 ((mput (mput σ 23 (σ 0 17).toNatClampNeg 0) 27 ((mput σ 23 (σ 0 17).toNatClampNeg 0) 0 17).toNatClampNeg 0) 0 17).toNatClampNeg 0) 34 ((mput (mput (mput σ 23 (σ 0 17).toNatClampNeg 0) 27 ((mput σ 23 (σ 0 17).toNatClampNeg 0) 0 17).toNatClampNeg 0) 30 ((mput (mput σ 23 (σ 0 17).toNatClampNeg 0) 27 ((mput σ 23 (σ 0 17).toNatClampNeg 0) 0 17).toNatClampNeg 0) 0 17).toNatClampNeg 0) 0 17).toNatClampNeg (-1)) 35 ((mput (mput (mput (mput σ 23 (σ 0 17).toNatClampNeg 0) 27 ((mput σ 23 (σ 0 17).toNatClampNeg 0) 0 17).toNatClampNeg 0) 30 ((mput (mput σ 23 (σ 0 17).toNatClampNeg 0) 27 ((mput σ 23 (σ 0 17).toNatClampNeg 0) 0 17).toNatClampNeg 0) 0 17).toNatClampNeg 0) 34 ((mput (mput (mput σ 23 (σ 0 17).toNatClampNeg 0) 27 ((mput σ 23 (σ 0 17).toNatClampNeg 0) 0 17).toNatClampNeg 0) 30 ((mput (mput σ 23 (σ 0 17).toNatClampNeg 0) 27 ((mput σ 23 (σ 0 17).toNatClampNeg 0) 0 17).toNatClampNeg 0) 0 17).toNatClampNeg 0) 0 17).toNatClampNeg (-1)) 0 17).toNatClampNeg 0) 0 17), .ref 151]) 5 rfl ?_
  refine pu_iast rfl rfl g6 (shp_pM (c := 39) rfl) ?_
  obtain ⟨g7, h⟩ := gd_in h
  refine pmSeg_U (pc' := 69) (ls' := [some (.ref 112), some (.int v1)]) (st' := [.int v1, .int ((mput (mput (mput (mput (mput (mput σ 23 (σ 0 17).toNatClampNeg 0) 27 ((mput σ 23 (σ 0 17).toNatClampNeg 0) 0 17).toNatClampNeg 0) 30 ((mput (mput σ 23 (σ 0 17).toNatClampNeg 0) 27 ((mput σ 23 (σ 0 17).toNatClampNeg 0) 0 17).toNatClampNeg 0) 0 17).toNatClampNeg 0) 34 ((mput (mput (mput σ 23 (σ 0 17).toNatClampNeg 0) 27 ((mput σ 23 (σ 0 17).toNatClampNeg 0) 0 17).toNatClampNeg 0) 30 ((mput (mput σ 23 (σ 0 17).toNatClampNeg 0) 27 ((mput σ 23 (σ 0 17).toNatClampNeg 0) 0 17).toNatClampNeg 0) 0 17).toNatClampNeg 0) 0 17).toNatClampNeg (-1)) 35 ((mput (mput (mput (mput σ 23 (σ 0 17).toNatClampNeg 0) 27 ((mput σ 23 (σ 0 17).toNatClampNeg 0) 0 17).toNatClampNeg 0) 30 ((mput (mput σ 23 (σ 0 17).toNatClampNeg 0) 27 ((mput σ 23 (σ 0 17).toNatClampNeg 0) 0 17).toNatClampNeg 0) 0 17).toNatClampNeg 0) 34 ((mput (mput (mput σ 23 (σ 0 17).toNatClampNeg 0) 27 ((mput σ 23 (σ 0 17).toNatClampNeg 0) 0 17).toNatClampNeg 0) 30 ((mput (mput σ 23 (σ 0 17).toNatClampNeg 0) 27 ((mput σ 23 (σ 0 17).toNatClampNeg 0) 0 17).toNatClampNeg 0) 0 17).toNatClampNeg 0) 0 17).toNatClampNeg (-1)) 0 17).toNatClampNeg 0) 39 ((mput (mput (mput (mput (mput σ 23 (σ 0 17).toNatClampNeg 0) 27 ((mput σ 23 (σ 0 17).toNatClampNeg 0) 0 17).toNatClampNeg 0) 30 ((mput (mput σ 23 (σ 0 17).toNatClampNeg 0) 27 ((mput σ 23 (σ 0 17).toNatClampNeg 0) 0 17).toNatClampNeg 0) 0 17).toNatClampNeg 0) 34 ((mput (mput (mput σ 23 (σ 0 17).toNatClampNeg 0) 27 ((mput σ 23 (σ 0 17).toNatClampNeg 0) 0 17).toNatClampNeg 0) 30 ((mput (mput σ 23 (σ 0 17).toNatClampNeg 0) 27 ((mput σ 23 (σ 0 17).toNatClampNeg 0) 0 17).toNatClampNeg 0) 0 17).toNatClampNeg 0) 0 17).toNatClampNeg (-1)) 35 ((mput (mput (mput (mput σ 23 (σ 0 17).toNatClampNeg 0) 27 ((mput σ 23 (σ 0 17).toNatClampNeg 0) 0 17).toNatClampNeg 0) 30 ((mput (mput σ 23 (σ 0 17).toNatClampNeg 0) 27 ((mput σ 23 (σ 0 17).toNatClampNeg 0) 0 17).toNatClampNeg 0) 0 17).toNatClampNeg 0) 34 ((mput (mput (mput σ 23 (σ 0 17).toNatClampNeg 0) 27 ((mput σ 23 (σ 0 17).toNatClampNeg 0) 0 17).toNatClampNeg 0) 30 ((mput (mput σ 23 (σ 0 17).toNatClampNeg 0) 27 ((mput σ 23 (σ 0 17).toNatClampNeg 0) 0 17).toNatClampNeg 0) 0 17).toNatClampNeg 0) 0 17).toNatClampNeg (-1)) 0 17).toNatClampNeg 0) 0 17).toNatClampNeg (-1)) 0 17), .ref 152]) 5 rfl ?_
  refine pu_iast rfl rfl g7 (shp_pM (c := 40) rfl) ?_
  refine pmSeg_U (pc' := 70) (ls' := [some (.ref 112), some (.int v1)]) (st' := []) 0 rfl ?_
  cases h
  exact pmU_T rfl rfl rfl rfl rfl rfl
theorem L_Mo_row_b5 {S : pmS} (d : Nat)    : ∀ (n0 : Nat) {v1 : Int32} {σ τ : Mem} {z : Int32}, Mo_row_b5 n0 v1 σ = some z → pmU S (d + 0) 122 5 [some (.ref 112), some (.int v1)] [] (shH τ σ) (some (.int z)) (shH τ σ) := by
  intro n0
  induction n0 with
  | zero =>
    intro v1 σ τ z  h
    unfold Mo_row_b5 at h
    cases h
  | succ n1 ih =>
    intro v1 σ τ z  h
    unfold Mo_row_b5 at h
    obtain ⟨g1, h⟩ := gd_in h
    refine pmSeg_U (pc' := 10) (ls' := [some (.ref 112), some (.int v1)]) (st' := [.int v1, .ref 126]) 3 rfl ?_
    refine pu_iald rfl rfl g1 (shp_iM (c := 14) rfl) ?_
    refine pmSeg_U (pc' := 12) (ls' := [some (.ref 112), some (.int v1)]) (st' := [.int 4, .int (σ 14 v1.toNatClampNeg)]) 1 rfl ?_
    refine pu_icmpP (tg := 21) h rfl rfl rfl (fun h => ?_) (fun h => ?_)
    · refine pmSeg_U (pc' := 22) (ls' := [some (.ref 112), some (.int v1)]) (st' := [.int v1]) 1 rfl ?_
      cases h
      exact pmU_T rfl rfl rfl rfl rfl rfl
    · refine pmSeg_U (pc' := 5) (ls' := [some (.ref 112), some (.int (v1 + (-1)))]) (st' := []) 2 rfl ?_
      exact ih h
theorem L_Mo_row {S : pmS} (d : Nat)  {σ τ : Mem} {z : Int32}  (h : Mo_row σ = some z) : pmX S (d + 1) 122 [.ref 112] (shH τ σ) (some (.int z)) (shH τ σ) := by
  unfold Mo_row at h
  refine pmU_X rfl ?_
  refine pmSeg_U (pc' := 5) (ls' := [some (.ref 112), some (.int (σ 0 17))]) (st' := []) 3 rfl ?_
  exact L_Mo_row_b5 d FU h
theorem L_Mo_knownHere {S : pmS} (d : Nat)  {σ τ : Mem} {z : Int32}  (h : Mo_knownHere σ = some z) : pmX S (d + 2) 121 [.ref 112] (shH τ σ) (some (.int z)) (shH τ σ) := by
  unfold Mo_knownHere at h
  refine pmU_X rfl ?_
  refine pmSeg_U (pc' := 1) (ls' := [some (.ref 112), none]) (st' := [.ref 112]) 1 rfl ?_
  obtain ⟨q1, hq1, h⟩ := bd_in h
  refine pmU_C (av := [.ref 112]) (rest := []) rfl rfl rfl rfl rfl (L_Mo_row (d + 0) hq1) ?_
  obtain ⟨g1, h⟩ := gd_in h
  refine pmSeg_U (pc' := 10) (ls' := [some (.ref 112), some (.int q1)]) (st' := [.int q1, .ref 152]) 4 rfl ?_
  refine pu_iald rfl rfl g1 (shp_iM (c := 40) rfl) ?_
  obtain ⟨g2, h⟩ := gd_in h
  refine pmSeg_U (pc' := 16) (ls' := [some (.ref 112), some (.int q1)]) (st' := [.int q1, .ref 142, .int (σ 40 q1.toNatClampNeg)]) 3 rfl ?_
  refine pu_bald rfl rfl g2 (shp_iM (c := 30) rfl) ?_
  refine pmSeg_U (pc' := 17) (ls' := [some (.ref 112), some (.int q1)]) (st' := [.int (σ 30 q1.toNatClampNeg), .int (σ 40 q1.toNatClampNeg)]) 0 rfl ?_
  refine pu_ifP (tg := 29) h rfl rfl rfl (fun h => ?_) (fun h => ?_)
  · refine pmSeg_U (pc' := 31) (ls' := [some (.ref 112), some (.int q1)]) (st' := [.int ((σ 40 q1.toNatClampNeg) ||| 0)]) 2 rfl ?_
    cases h
    exact pmU_T rfl rfl rfl rfl rfl rfl
  · obtain ⟨g3, h⟩ := gd_in h
    refine pmSeg_U (pc' := 25) (ls' := [some (.ref 112), some (.int q1)]) (st' := [.int q1, .ref 145, .int (σ 40 q1.toNatClampNeg)]) 3 rfl ?_
    refine pu_iald rfl rfl g3 (shp_iM (c := 33) rfl) ?_
    refine pmSeg_U (pc' := 31) (ls' := [some (.ref 112), some (.int q1)]) (st' := [.int ((σ 40 q1.toNatClampNeg) ||| (σ 33 q1.toNatClampNeg))]) 2 rfl ?_
    cases h
    exact pmU_T rfl rfl rfl rfl rfl rfl
theorem L_Mo_readAtom_b284 {S : pmS} (d : Nat)    {v1 : Int32} {v2 : Int32} {σ τ : Mem} {z : Int32 × Mem}  (h : Mo_readAtom_b284 v1 v2 σ = some z) : pmU S (d + 2) 119 284 [none, some (.int v1), some (.int v2), none, none, none, none] [] (shH τ σ) (some (.int z.1)) (shH τ z.2) := by
  unfold Mo_readAtom_b284 at h
  refine pmSeg_U (pc' := 285) (ls' := [none, some (.int v1), some (.int v2), none, none, none, none]) (st' := [.int v2]) 1 rfl ?_
  refine pu_ifP (tg := 306) h rfl rfl rfl (fun h => ?_) (fun h => ?_)
  · refine pmSeg_U (pc' := 311) (ls' := [none, some (.int v1), some (.int v2), none, none, none, none]) (st' := [.int 1]) 2 rfl ?_
    cases h
    exact pmU_T rfl rfl rfl rfl rfl rfl
  · refine pmSeg_U (pc' := 291) (ls' := [none, some (.int v1), some (.int v2), none, none, none, none]) (st' := [.int 110, .int v1]) 2 rfl ?_
    refine pu_icmpP (tg := 306) h rfl rfl rfl (fun h => ?_) (fun h => ?_)
    · refine pmSeg_U (pc' := 311) (ls' := [none, some (.int v1), some (.int v2), none, none, none, none]) (st' := [.int 1]) 2 rfl ?_
      cases h
      exact pmU_T rfl rfl rfl rfl rfl rfl
    · refine pmSeg_U (pc' := 297) (ls' := [none, some (.int v1), some (.int v2), none, none, none, none]) (st' := [.int 109, .int v1]) 2 rfl ?_
      refine pu_icmpP (tg := 306) h rfl rfl rfl (fun h => ?_) (fun h => ?_)
      · refine pmSeg_U (pc' := 311) (ls' := [none, some (.int v1), some (.int v2), none, none, none, none]) (st' := [.int 1]) 2 rfl ?_
        cases h
        exact pmU_T rfl rfl rfl rfl rfl rfl
      · refine pmSeg_U (pc' := 303) (ls' := [none, some (.int v1), some (.int v2), none, none, none, none]) (st' := [.int 108, .int v1]) 2 rfl ?_
        refine pu_icmpP (tg := 310) h rfl rfl rfl (fun h => ?_) (fun h => ?_)
        · refine pmSeg_U (pc' := 311) (ls' := [none, some (.int v1), some (.int v2), none, none, none, none]) (st' := [.int 2]) 1 rfl ?_
          cases h
          exact pmU_T rfl rfl rfl rfl rfl rfl
        · refine pmSeg_U (pc' := 311) (ls' := [none, some (.int v1), some (.int v2), none, none, none, none]) (st' := [.int 1]) 2 rfl ?_
          cases h
          exact pmU_T rfl rfl rfl rfl rfl rfl
theorem L_Mo_readAtom_b283 {S : pmS} (d : Nat)    {v1 : Int32} {v2 : Int32} {s1 : Int32} {s2 : Int32} {σ τ : Mem} {z : Int32 × Mem}  (h : Mo_readAtom_b283 v1 v2 s1 s2 σ = some z) : pmU S (d + 2) 119 283 [none, some (.int v1), some (.int v2), none, none, none, none] [.int s2, .int s1, .ref 122] (shH τ σ) (some (.int z.1)) (shH τ z.2) := by
  unfold Mo_readAtom_b283 at h
  obtain ⟨g1, h⟩ := gd_in h
  obtain ⟨g2, h⟩ := gd_in h
  refine pmSeg_U (pc' := 283) (ls' := [none, some (.int v1), some (.int v2), none, none, none, none]) (st' := [.int s2, .int s1, .ref 122]) 0 rfl ?_
  refine pu_bast rfl rfl g1 g2 (shp_pM (c := 10) rfl) ?_
  refine pmSeg_U (pc' := 284) (ls' := [none, some (.int v1), some (.int v2), none, none, none, none]) (st' := []) 0 rfl ?_
  exact L_Mo_readAtom_b284 d h
theorem L_Mo_readAtom_b282 {S : pmS} (d : Nat)    {v1 : Int32} {v2 : Int32} {s1 : Int32} {σ τ : Mem} {z : Int32 × Mem}  (h : Mo_readAtom_b282 v1 v2 s1 σ = some z) : pmU S (d + 2) 119 282 [none, some (.int v1), some (.int v2), none, none, none, none] [.int s1, .ref 122] (shH τ σ) (some (.int z.1)) (shH τ z.2) := by
  unfold Mo_readAtom_b282 at h
  refine pmSeg_U (pc' := 283) (ls' := [none, some (.int v1), some (.int v2), none, none, none, none]) (st' := [.int 0, .int s1, .ref 122]) 1 rfl ?_
  exact L_Mo_readAtom_b283 d h
theorem L_Mo_readAtom_b238 {S : pmS} (d : Nat)    {v1 : Int32} {v2 : Int32} {v5 : Int32} {s1 : Int32} {σ τ : Mem} {z : Int32 × Mem}  (h : Mo_readAtom_b238 v1 v2 v5 s1 σ = some z) : pmU S (d + 2) 119 238 [some (.ref 112), some (.int v1), some (.int v2), none, none, some (.int v5), none] [.int s1, .ref 112] (shH τ σ) (some (.int z.1)) (shH τ z.2) := by
  unfold Mo_readAtom_b238 at h
  refine pmSeg_U (pc' := 240) (ls' := [some (.ref 112), some (.int v1), some (.int v2), none, none, some (.int v5), none]) (st' := [.int v5, .int s1, .ref 112]) 1 rfl ?_
  obtain ⟨q240, hq240, h⟩ := bd_in h
  refine pmU_C (av := [.ref 112, .int s1, .int v5]) (rest := []) rfl rfl rfl rfl rfl (L_Mo_emit (d + 1) hq240) ?_
  refine pmSeg_U (pc' := 246) (ls' := [some (.ref 112), some (.int v1), some (.int v2), none, none, some (.int v5), none]) (st' := [.int 109, .int v1]) 2 rfl ?_
  refine pu_icmpP (tg := 284) h rfl rfl rfl (fun h => ?_) (fun h => ?_)
  · refine pmSeg_U (pc' := 284) (ls' := [some (.ref 112), some (.int v1), some (.int v2), none, none, some (.int v5), none]) (st' := []) 0 rfl ?_
    refine pmU_le (a := [none, some (.int v1), some (.int v2), none, none, none, none]) (le_v rfl (le_s (le_s (le_s (le_s (le_v rfl (le_s le_nil))))))) ?_
    exact L_Mo_readAtom_b284 d h
  · obtain ⟨g1, h⟩ := gd_in h
    refine pmSeg_U (pc' := 261) (ls' := [some (.ref 112), some (.int v1), some (.int v2), none, none, some (.int v5), none]) (st' := [.int 16, .ref 122, .int 16, .ref 122]) 6 rfl ?_
    refine pu_bald rfl rfl g1 (shp_iM (c := 10) rfl) ?_
    refine pmSeg_U (pc' := 262) (ls' := [some (.ref 112), some (.int v1), some (.int v2), none, none, some (.int v5), none]) (st' := [.int (q240 10 16), .int 16, .ref 122]) 0 rfl ?_
    refine pu_ifP (tg := 282) h rfl rfl rfl (fun h => ?_) (fun h => ?_)
    · refine pmSeg_U (pc' := 282) (ls' := [some (.ref 112), some (.int v1), some (.int v2), none, none, some (.int v5), none]) (st' := [.int 16, .ref 122]) 0 rfl ?_
      refine pmU_le (a := [none, some (.int v1), some (.int v2), none, none, none, none]) (le_v rfl (le_s (le_s (le_s (le_s (le_v rfl (le_s le_nil))))))) ?_
      exact L_Mo_readAtom_b282 d h
    · refine pmSeg_U (pc' := 266) (ls' := [some (.ref 112), some (.int v1), some (.int v2), none, none, some (.int v5), none]) (st' := [.ref 112, .int 16, .ref 122]) 1 rfl ?_
      obtain ⟨q266, hq266, h⟩ := bd_in h
      refine pmU_C (av := [.ref 112]) (rest := [.int 16, .ref 122]) rfl rfl rfl rfl rfl (L_Mo_knownHere (d + 0) hq266) ?_
      refine pmSeg_U (pc' := 275) (ls' := [some (.ref 112), some (.int v1), some (.int v2), none, none, some (.int v5), none]) (st' := [.int 1, .int ((q266 >>> (v5 &&& 31)) &&& 1), .int 16, .ref 122]) 5 rfl ?_
      refine pu_icmpP (tg := 282) h rfl rfl rfl (fun h => ?_) (fun h => ?_)
      · refine pmSeg_U (pc' := 282) (ls' := [some (.ref 112), some (.int v1), some (.int v2), none, none, some (.int v5), none]) (st' := [.int 16, .ref 122]) 0 rfl ?_
        refine pmU_le (a := [none, some (.int v1), some (.int v2), none, none, none, none]) (le_v rfl (le_s (le_s (le_s (le_s (le_v rfl (le_s le_nil))))))) ?_
        exact L_Mo_readAtom_b282 d h
      · refine pmSeg_U (pc' := 283) (ls' := [some (.ref 112), some (.int v1), some (.int v2), none, none, some (.int v5), none]) (st' := [.int 1, .int 16, .ref 122]) 2 rfl ?_
        refine pmU_le (a := [none, some (.int v1), some (.int v2), none, none, none, none]) (le_v rfl (le_s (le_s (le_s (le_s (le_v rfl (le_s le_nil))))))) ?_
        exact L_Mo_readAtom_b283 d h
theorem L_Mo_readAtom_b228 {S : pmS} (d : Nat)    {v1 : Int32} {v2 : Int32} {v5 : Int32} {σ τ : Mem} {z : Int32 × Mem}  (h : Mo_readAtom_b228 v1 v2 v5 σ = some z) : pmU S (d + 2) 119 228 [some (.ref 112), some (.int v1), some (.int v2), none, none, some (.int v5), none] [] (shH τ σ) (some (.int z.1)) (shH τ z.2) := by
  unfold Mo_readAtom_b228 at h
  refine pmSeg_U (pc' := 230) (ls' := [some (.ref 112), some (.int v1), some (.int v2), none, none, some (.int v5), none]) (st' := [.int v2, .ref 112]) 2 rfl ?_
  refine pu_ifP (tg := 237) h rfl rfl rfl (fun h => ?_) (fun h => ?_)
  · refine pmSeg_U (pc' := 238) (ls' := [some (.ref 112), some (.int v1), some (.int v2), none, none, some (.int v5), none]) (st' := [.int v1, .ref 112]) 1 rfl ?_
    exact L_Mo_readAtom_b238 d h
  · refine pmSeg_U (pc' := 238) (ls' := [some (.ref 112), some (.int v1), some (.int v2), none, none, some (.int v5), none]) (st' := [.int 0, .ref 112]) 2 rfl ?_
    exact L_Mo_readAtom_b238 d h
theorem L_Mo_readAtom_b201 {S : pmS} (d : Nat)     {σ τ : Mem} {z : Int32 × Mem}  (h : Mo_readAtom_b201 σ = some z) : pmU S (d + 2) 119 201 [some (.ref 112), none, none, none, none, none, none] [] (shH τ σ) (some (.int z.1)) (shH τ z.2) := by
  unfold Mo_readAtom_b201 at h
  refine pmSeg_U (pc' := 206) (ls' := [some (.ref 112), none, none, none, none, none, none]) (st' := [.int (σ 0 14), .ref 112]) 3 rfl ?_
  obtain ⟨q206, hq206, h⟩ := bd_in h
  refine pmU_C (av := [.ref 112, .int (σ 0 14)]) (rest := []) rfl rfl rfl rfl rfl (L_Mo_blame (d + 1) hq206) ?_
  refine pmSeg_U (pc' := 210) (ls' := [some (.ref 112), none, none, none, none, none, none]) (st' := [.int 0]) 1 rfl ?_
  cases h
  exact pmU_T rfl rfl rfl rfl rfl rfl
theorem L_Mo_readAtom_b175 {S : pmS} (d : Nat)    {v1 : Int32} {v2 : Int32} {v3 : Int32} {s0 : Int32} {σ τ : Mem} {z : Int32 × Mem}  (h : Mo_readAtom_b175 v1 v2 v3 s0 σ = some z) : pmU S (d + 2) 119 175 [some (.ref 112), some (.int v1), some (.int v2), some (.int v3), none, none, none] [.int s0] (shH τ σ) (some (.int z.1)) (shH τ z.2) := by
  unfold Mo_readAtom_b175 at h
  refine pmSeg_U (pc' := 178) (ls' := [some (.ref 112), some (.int v1), some (.int v2), some (.int v3), none, some (.int s0), none]) (st' := [.int v3]) 2 rfl ?_
  refine pu_ifP (tg := 228) h rfl rfl rfl (fun h => ?_) (fun h => ?_)
  · refine pmSeg_U (pc' := 228) (ls' := [some (.ref 112), some (.int v1), some (.int v2), some (.int v3), none, some (.int s0), none]) (st' := []) 0 rfl ?_
    refine pmU_le (a := [some (.ref 112), some (.int v1), some (.int v2), none, none, some (.int s0), none]) (le_s (le_s (le_s (le_v rfl (le_s (le_s (le_s le_nil))))))) ?_
    exact L_Mo_readAtom_b228 d h
  · refine pmSeg_U (pc' := 182) (ls' := [some (.ref 112), some (.int v1), some (.int v2), some (.int v3), none, some (.int s0), none]) (st' := [.ref 112]) 1 rfl ?_
    obtain ⟨q182, hq182, h⟩ := bd_in h
    refine pmU_C (av := [.ref 112]) (rest := []) rfl rfl rfl rfl rfl (L_Mo_here (d + 0) hq182) ?_
    refine pmSeg_U (pc' := 191) (ls' := [some (.ref 112), some (.int v1), some (.int v2), some (.int v3), none, some (.int s0), some (.int q182.1)]) (st' := [.int 48, .int q182.1]) 3 rfl ?_
    refine pu_icmpP (tg := 201) h rfl rfl rfl (fun h => ?_) (fun h => ?_)
    · refine pmSeg_U (pc' := 201) (ls' := [some (.ref 112), some (.int v1), some (.int v2), some (.int v3), none, some (.int s0), some (.int q182.1)]) (st' := []) 0 rfl ?_
      refine pmU_le (a := [some (.ref 112), none, none, none, none, none, none]) (le_s (le_v rfl (le_v rfl (le_v rfl (le_s (le_v rfl (le_v rfl le_nil))))))) ?_
      exact L_Mo_readAtom_b201 d h
    · refine pmSeg_U (pc' := 198) (ls' := [some (.ref 112), some (.int v1), some (.int v2), some (.int v3), none, some (.int s0), some (.int q182.1)]) (st' := [.int 51, .int q182.1]) 2 rfl ?_
      refine pu_icmpP (tg := 211) h rfl rfl rfl (fun h => ?_) (fun h => ?_)
      · refine pmSeg_U (pc' := 225) (ls' := [some (.ref 112), some (.int v1), some (.int v2), some (.int v3), none, some (.int (q182.1 - 48)), some (.int q182.1)]) (st' := [.int ((q182.2 0 14) + 1), .ref 112]) 9 rfl ?_
        refine pu_put rfl rfl rfl rfl rfl (shp_pM (c := 0) rfl) ?_
        refine pmSeg_U (pc' := 228) (ls' := [some (.ref 112), some (.int v1), some (.int v2), some (.int v3), none, some (.int (q182.1 - 48)), some (.int q182.1)]) (st' := []) 0 rfl ?_
        refine pmU_le (a := [some (.ref 112), some (.int v1), some (.int v2), none, none, some (.int (q182.1 - 48)), none]) (le_s (le_s (le_s (le_v rfl (le_s (le_s (le_v rfl le_nil))))))) ?_
        exact L_Mo_readAtom_b228 d h
      · refine pmSeg_U (pc' := 201) (ls' := [some (.ref 112), some (.int v1), some (.int v2), some (.int v3), none, some (.int s0), some (.int q182.1)]) (st' := []) 0 rfl ?_
        refine pmU_le (a := [some (.ref 112), none, none, none, none, none, none]) (le_s (le_v rfl (le_v rfl (le_v rfl (le_s (le_v rfl (le_v rfl le_nil))))))) ?_
        exact L_Mo_readAtom_b201 d h
theorem L_Mo_readAtom_b132 {S : pmS} (d : Nat)     {σ τ : Mem} {z : Int32 × Mem}  (h : Mo_readAtom_b132 σ = some z) : pmU S (d + 2) 119 132 [some (.ref 112), none, none, none, none, none, none] [] (shH τ σ) (some (.int z.1)) (shH τ z.2) := by
  unfold Mo_readAtom_b132 at h
  refine pmSeg_U (pc' := 137) (ls' := [some (.ref 112), none, none, none, none, none, none]) (st' := [.int (σ 0 14), .ref 112]) 3 rfl ?_
  obtain ⟨q137, hq137, h⟩ := bd_in h
  refine pmU_C (av := [.ref 112, .int (σ 0 14)]) (rest := []) rfl rfl rfl rfl rfl (L_Mo_blame (d + 1) hq137) ?_
  refine pmSeg_U (pc' := 141) (ls' := [some (.ref 112), none, none, none, none, none, none]) (st' := [.int 0]) 1 rfl ?_
  cases h
  exact pmU_T rfl rfl rfl rfl rfl rfl
theorem L_Mo_readAtom_b120 {S : pmS} (d : Nat)    {v1 : Int32} {v2 : Int32} {v3 : Int32} {σ τ : Mem} {z : Int32 × Mem}  (h : Mo_readAtom_b120 v1 v2 v3 σ = some z) : pmU S (d + 2) 119 120 [some (.ref 112), some (.int v1), some (.int v2), some (.int v3), none, none, none] [] (shH τ σ) (some (.int z.1)) (shH τ z.2) := by
  unfold Mo_readAtom_b120 at h
  obtain ⟨g1, h⟩ := gd_in h
  refine pmSeg_U (pc' := 126) (ls' := [some (.ref 112), some (.int v1), some (.int v2), some (.int v3), none, none, none]) (st' := [.int 16, .ref 121]) 3 rfl ?_
  refine pu_iald rfl rfl g1 (shp_iM (c := 9) rfl) ?_
  refine pmSeg_U (pc' := 129) (ls' := [some (.ref 112), some (.int v1), some (.int v2), some (.int v3), none, none, none]) (st' := [.int 12, .int (σ 9 16)]) 1 rfl ?_
  refine pu_icmpP (tg := 142) h rfl rfl rfl (fun h => ?_) (fun h => ?_)
  · obtain ⟨g2, h⟩ := gd_in h
    refine pmSeg_U (pc' := 149) (ls' := [some (.ref 112), some (.int v1), some (.int v2), some (.int v3), none, none, none]) (st' := [.int 16, .ref 121, .int 16, .ref 121]) 4 rfl ?_
    refine pu_iald rfl rfl g2 (shp_iM (c := 9) rfl) ?_
    obtain ⟨g3, h⟩ := gd_in h
    refine pmSeg_U (pc' := 152) (ls' := [some (.ref 112), some (.int v1), some (.int v2), some (.int v3), none, none, none]) (st' := [.int ((σ 9 16) + 1), .int 16, .ref 121]) 2 rfl ?_
    refine pu_iast rfl rfl g3 (shp_pM (c := 9) rfl) ?_
    refine pmSeg_U (pc' := 160) (ls' := [some (.ref 112), some (.int v1), some (.int v2), some (.int v3), none, none, none]) (st' := [.int (((mput σ 9 16 ((σ 9 16) + 1)) 0 14) + 1), .ref 112]) 5 rfl ?_
    refine pu_put rfl rfl rfl rfl rfl (shp_pM (c := 0) rfl) ?_
    refine pmSeg_U (pc' := 164) (ls' := [some (.ref 112), some (.int v1), some (.int v2), some (.int v3), none, none, none]) (st' := [.int v2]) 1 rfl ?_
    refine pu_ifP (tg := 174) h rfl rfl rfl (fun h => ?_) (fun h => ?_)
    · refine pmSeg_U (pc' := 175) (ls' := [some (.ref 112), some (.int v1), some (.int v2), some (.int v3), none, none, none]) (st' := [.int 0]) 1 rfl ?_
      exact L_Mo_readAtom_b175 d h
    · refine pmSeg_U (pc' := 175) (ls' := [some (.ref 112), some (.int v1), some (.int v2), some (.int v3), none, none, none]) (st' := [.int (v1 - 48)]) 4 rfl ?_
      exact L_Mo_readAtom_b175 d h
  · refine pmSeg_U (pc' := 132) (ls' := [some (.ref 112), some (.int v1), some (.int v2), some (.int v3), none, none, none]) (st' := []) 0 rfl ?_
    refine pmU_le (a := [some (.ref 112), none, none, none, none, none, none]) (le_s (le_v rfl (le_v rfl (le_v rfl (le_s (le_s (le_s le_nil))))))) ?_
    exact L_Mo_readAtom_b132 d h
theorem L_Mo_readAtom_b105 {S : pmS} (d : Nat)    {v1 : Int32} {v2 : Int32} {v3 : Int32} {s0 : Int32} {σ τ : Mem} {z : Int32 × Mem}  (h : Mo_readAtom_b105 v1 v2 v3 s0 σ = some z) : pmU S (d + 2) 119 105 [some (.ref 112), some (.int v1), some (.int v2), some (.int v3), none, none, none] [.int s0] (shH τ σ) (some (.int z.1)) (shH τ z.2) := by
  unfold Mo_readAtom_b105 at h
  refine pmSeg_U (pc' := 108) (ls' := [some (.ref 112), some (.int v1), some (.int v2), some (.int v3), some (.int s0), none, none]) (st' := [.int v2]) 2 rfl ?_
  refine pu_ifP (tg := 120) h rfl rfl rfl (fun h => ?_) (fun h => ?_)
  · refine pmSeg_U (pc' := 120) (ls' := [some (.ref 112), some (.int v1), some (.int v2), some (.int v3), some (.int s0), none, none]) (st' := []) 0 rfl ?_
    refine pmU_le (a := [some (.ref 112), some (.int v1), some (.int v2), some (.int v3), none, none, none]) (le_s (le_s (le_s (le_s (le_v rfl (le_s (le_s le_nil))))))) ?_
    exact L_Mo_readAtom_b120 d h
  · refine pmSeg_U (pc' := 112) (ls' := [some (.ref 112), some (.int v1), some (.int v2), some (.int v3), some (.int s0), none, none]) (st' := [.int v3]) 1 rfl ?_
    refine pu_ifP (tg := 120) h rfl rfl rfl (fun h => ?_) (fun h => ?_)
    · refine pmSeg_U (pc' := 120) (ls' := [some (.ref 112), some (.int v1), some (.int v2), some (.int v3), some (.int s0), none, none]) (st' := []) 0 rfl ?_
      refine pmU_le (a := [some (.ref 112), some (.int v1), some (.int v2), some (.int v3), none, none, none]) (le_s (le_s (le_s (le_s (le_v rfl (le_s (le_s le_nil))))))) ?_
      exact L_Mo_readAtom_b120 d h
    · refine pmSeg_U (pc' := 117) (ls' := [some (.ref 112), some (.int v1), some (.int v2), some (.int v3), some (.int s0), none, none]) (st' := [.int s0]) 1 rfl ?_
      refine pu_ifP (tg := 132) h rfl rfl rfl (fun h => ?_) (fun h => ?_)
      · refine pmSeg_U (pc' := 132) (ls' := [some (.ref 112), some (.int v1), some (.int v2), some (.int v3), some (.int s0), none, none]) (st' := []) 0 rfl ?_
        refine pmU_le (a := [some (.ref 112), none, none, none, none, none, none]) (le_s (le_v rfl (le_v rfl (le_v rfl (le_v rfl (le_s (le_s le_nil))))))) ?_
        exact L_Mo_readAtom_b132 d h
      · refine pmSeg_U (pc' := 120) (ls' := [some (.ref 112), some (.int v1), some (.int v2), some (.int v3), some (.int s0), none, none]) (st' := []) 0 rfl ?_
        refine pmU_le (a := [some (.ref 112), some (.int v1), some (.int v2), some (.int v3), none, none, none]) (le_s (le_s (le_s (le_s (le_v rfl (le_s (le_s le_nil))))))) ?_
        exact L_Mo_readAtom_b120 d h
theorem L_Mo_readAtom_b100 {S : pmS} (d : Nat)    {v1 : Int32} {v2 : Int32} {v3 : Int32} {σ τ : Mem} {z : Int32 × Mem}  (h : Mo_readAtom_b100 v1 v2 v3 σ = some z) : pmU S (d + 2) 119 100 [some (.ref 112), some (.int v1), some (.int v2), some (.int v3), none, none, none] [] (shH τ σ) (some (.int z.1)) (shH τ z.2) := by
  unfold Mo_readAtom_b100 at h
  refine pmSeg_U (pc' := 105) (ls' := [some (.ref 112), some (.int v1), some (.int v2), some (.int v3), none, none, none]) (st' := [.int 1]) 2 rfl ?_
  exact L_Mo_readAtom_b105 d h
theorem L_Mo_readAtom_b57 {S : pmS} (d : Nat)    {v1 : Int32} {v2 : Int32} {s0 : Int32} {σ τ : Mem} {z : Int32 × Mem}  (h : Mo_readAtom_b57 v1 v2 s0 σ = some z) : pmU S (d + 2) 119 57 [some (.ref 112), some (.int v1), some (.int v2), none, none, none, none] [.int s0] (shH τ σ) (some (.int z.1)) (shH τ z.2) := by
  unfold Mo_readAtom_b57 at h
  refine pmSeg_U (pc' := 61) (ls' := [some (.ref 112), some (.int v1), some (.int v2), some (.int s0), none, none, none]) (st' := [.int 84, .int v1]) 3 rfl ?_
  refine pu_icmpP (tg := 100) h rfl rfl rfl (fun h => ?_) (fun h => ?_)
  · refine pmSeg_U (pc' := 100) (ls' := [some (.ref 112), some (.int v1), some (.int v2), some (.int s0), none, none, none]) (st' := []) 0 rfl ?_
    exact L_Mo_readAtom_b100 d h
  · refine pmSeg_U (pc' := 67) (ls' := [some (.ref 112), some (.int v1), some (.int v2), some (.int s0), none, none, none]) (st' := [.int 70, .int v1]) 2 rfl ?_
    refine pu_icmpP (tg := 100) h rfl rfl rfl (fun h => ?_) (fun h => ?_)
    · refine pmSeg_U (pc' := 100) (ls' := [some (.ref 112), some (.int v1), some (.int v2), some (.int s0), none, none, none]) (st' := []) 0 rfl ?_
      exact L_Mo_readAtom_b100 d h
    · refine pmSeg_U (pc' := 73) (ls' := [some (.ref 112), some (.int v1), some (.int v2), some (.int s0), none, none, none]) (st' := [.int 110, .int v1]) 2 rfl ?_
      refine pu_icmpP (tg := 100) h rfl rfl rfl (fun h => ?_) (fun h => ?_)
      · refine pmSeg_U (pc' := 100) (ls' := [some (.ref 112), some (.int v1), some (.int v2), some (.int s0), none, none, none]) (st' := []) 0 rfl ?_
        exact L_Mo_readAtom_b100 d h
      · refine pmSeg_U (pc' := 79) (ls' := [some (.ref 112), some (.int v1), some (.int v2), some (.int s0), none, none, none]) (st' := [.int 98, .int v1]) 2 rfl ?_
        refine pu_icmpP (tg := 100) h rfl rfl rfl (fun h => ?_) (fun h => ?_)
        · refine pmSeg_U (pc' := 100) (ls' := [some (.ref 112), some (.int v1), some (.int v2), some (.int s0), none, none, none]) (st' := []) 0 rfl ?_
          exact L_Mo_readAtom_b100 d h
        · refine pmSeg_U (pc' := 85) (ls' := [some (.ref 112), some (.int v1), some (.int v2), some (.int s0), none, none, none]) (st' := [.int 99, .int v1]) 2 rfl ?_
          refine pu_icmpP (tg := 100) h rfl rfl rfl (fun h => ?_) (fun h => ?_)
          · refine pmSeg_U (pc' := 100) (ls' := [some (.ref 112), some (.int v1), some (.int v2), some (.int s0), none, none, none]) (st' := []) 0 rfl ?_
            exact L_Mo_readAtom_b100 d h
          · refine pmSeg_U (pc' := 91) (ls' := [some (.ref 112), some (.int v1), some (.int v2), some (.int s0), none, none, none]) (st' := [.int 111, .int v1]) 2 rfl ?_
            refine pu_icmpP (tg := 100) h rfl rfl rfl (fun h => ?_) (fun h => ?_)
            · refine pmSeg_U (pc' := 100) (ls' := [some (.ref 112), some (.int v1), some (.int v2), some (.int s0), none, none, none]) (st' := []) 0 rfl ?_
              exact L_Mo_readAtom_b100 d h
            · refine pmSeg_U (pc' := 97) (ls' := [some (.ref 112), some (.int v1), some (.int v2), some (.int s0), none, none, none]) (st' := [.int 108, .int v1]) 2 rfl ?_
              refine pu_icmpP (tg := 104) h rfl rfl rfl (fun h => ?_) (fun h => ?_)
              · refine pmSeg_U (pc' := 105) (ls' := [some (.ref 112), some (.int v1), some (.int v2), some (.int s0), none, none, none]) (st' := [.int 0]) 1 rfl ?_
                exact L_Mo_readAtom_b105 d h
              · refine pmSeg_U (pc' := 100) (ls' := [some (.ref 112), some (.int v1), some (.int v2), some (.int s0), none, none, none]) (st' := []) 0 rfl ?_
                exact L_Mo_readAtom_b100 d h
theorem L_Mo_readAtom_b52 {S : pmS} (d : Nat)    {v1 : Int32} {v2 : Int32} {σ τ : Mem} {z : Int32 × Mem}  (h : Mo_readAtom_b52 v1 v2 σ = some z) : pmU S (d + 2) 119 52 [some (.ref 112), some (.int v1), some (.int v2), none, none, none, none] [] (shH τ σ) (some (.int z.1)) (shH τ z.2) := by
  unfold Mo_readAtom_b52 at h
  refine pmSeg_U (pc' := 57) (ls' := [some (.ref 112), some (.int v1), some (.int v2), none, none, none, none]) (st' := [.int 1]) 2 rfl ?_
  exact L_Mo_readAtom_b57 d h
theorem L_Mo_readAtom_b27 {S : pmS} (d : Nat)    {v1 : Int32} {s0 : Int32} {σ τ : Mem} {z : Int32 × Mem}  (h : Mo_readAtom_b27 v1 s0 σ = some z) : pmU S (d + 2) 119 27 [some (.ref 112), some (.int v1), none, none, none, none, none] [.int s0] (shH τ σ) (some (.int z.1)) (shH τ z.2) := by
  unfold Mo_readAtom_b27 at h
  refine pmSeg_U (pc' := 31) (ls' := [some (.ref 112), some (.int v1), some (.int s0), none, none, none, none]) (st' := [.int 103, .int v1]) 3 rfl ?_
  refine pu_icmpP (tg := 52) h rfl rfl rfl (fun h => ?_) (fun h => ?_)
  · refine pmSeg_U (pc' := 52) (ls' := [some (.ref 112), some (.int v1), some (.int s0), none, none, none, none]) (st' := []) 0 rfl ?_
    exact L_Mo_readAtom_b52 d h
  · refine pmSeg_U (pc' := 37) (ls' := [some (.ref 112), some (.int v1), some (.int s0), none, none, none, none]) (st' := [.int 102, .int v1]) 2 rfl ?_
    refine pu_icmpP (tg := 52) h rfl rfl rfl (fun h => ?_) (fun h => ?_)
    · refine pmSeg_U (pc' := 52) (ls' := [some (.ref 112), some (.int v1), some (.int s0), none, none, none, none]) (st' := []) 0 rfl ?_
      exact L_Mo_readAtom_b52 d h
    · refine pmSeg_U (pc' := 43) (ls' := [some (.ref 112), some (.int v1), some (.int s0), none, none, none, none]) (st' := [.int 104, .int v1]) 2 rfl ?_
      refine pu_icmpP (tg := 52) h rfl rfl rfl (fun h => ?_) (fun h => ?_)
      · refine pmSeg_U (pc' := 52) (ls' := [some (.ref 112), some (.int v1), some (.int s0), none, none, none, none]) (st' := []) 0 rfl ?_
        exact L_Mo_readAtom_b52 d h
      · refine pmSeg_U (pc' := 49) (ls' := [some (.ref 112), some (.int v1), some (.int s0), none, none, none, none]) (st' := [.int 109, .int v1]) 2 rfl ?_
        refine pu_icmpP (tg := 56) h rfl rfl rfl (fun h => ?_) (fun h => ?_)
        · refine pmSeg_U (pc' := 57) (ls' := [some (.ref 112), some (.int v1), some (.int s0), none, none, none, none]) (st' := [.int 0]) 1 rfl ?_
          exact L_Mo_readAtom_b57 d h
        · refine pmSeg_U (pc' := 52) (ls' := [some (.ref 112), some (.int v1), some (.int s0), none, none, none, none]) (st' := []) 0 rfl ?_
          exact L_Mo_readAtom_b52 d h
theorem L_Mo_readAtom_b26 {S : pmS} (d : Nat)    {v1 : Int32} {σ τ : Mem} {z : Int32 × Mem}  (h : Mo_readAtom_b26 v1 σ = some z) : pmU S (d + 2) 119 26 [some (.ref 112), some (.int v1), none, none, none, none, none] [] (shH τ σ) (some (.int z.1)) (shH τ z.2) := by
  unfold Mo_readAtom_b26 at h
  refine pmSeg_U (pc' := 27) (ls' := [some (.ref 112), some (.int v1), none, none, none, none, none]) (st' := [.int 0]) 1 rfl ?_
  exact L_Mo_readAtom_b27 d h
theorem L_Mo_readAtom {S : pmS} (d : Nat)  {σ τ : Mem} {z : Int32 × Mem}  (h : Mo_readAtom σ = some z) : pmX S (d + 3) 119 [.ref 112] (shH τ σ) (some (.int z.1)) (shH τ z.2) := by
  unfold Mo_readAtom at h
  refine pmU_X rfl ?_
  obtain ⟨g1, h⟩ := gd_in h
  refine pmSeg_U (pc' := 8) (ls' := [some (.ref 112), none, none, none, none, none, none]) (st' := [.int (σ 0 14), .ref 117]) 4 rfl ?_
  refine pu_iald rfl rfl g1 (shp_iM (c := 5) rfl) ?_
  refine pmSeg_U (pc' := 13) (ls' := [some (.ref 112), some (.int (σ 5 (σ 0 14).toNatClampNeg)), none, none, none, none, none]) (st' := [.int 48, .int (σ 5 (σ 0 14).toNatClampNeg)]) 3 rfl ?_
  refine pu_icmpP (tg := 26) h rfl rfl rfl (fun h => ?_) (fun h => ?_)
  · refine pmSeg_U (pc' := 26) (ls' := [some (.ref 112), some (.int (σ 5 (σ 0 14).toNatClampNeg)), none, none, none, none, none]) (st' := []) 0 rfl ?_
    exact L_Mo_readAtom_b26 d h
  · refine pmSeg_U (pc' := 19) (ls' := [some (.ref 112), some (.int (σ 5 (σ 0 14).toNatClampNeg)), none, none, none, none, none]) (st' := [.int 57, .int (σ 5 (σ 0 14).toNatClampNeg)]) 2 rfl ?_
    refine pu_icmpP (tg := 26) h rfl rfl rfl (fun h => ?_) (fun h => ?_)
    · refine pmSeg_U (pc' := 26) (ls' := [some (.ref 112), some (.int (σ 5 (σ 0 14).toNatClampNeg)), none, none, none, none, none]) (st' := []) 0 rfl ?_
      exact L_Mo_readAtom_b26 d h
    · refine pmSeg_U (pc' := 27) (ls' := [some (.ref 112), some (.int (σ 5 (σ 0 14).toNatClampNeg)), none, none, none, none, none]) (st' := [.int 1]) 2 rfl ?_
      exact L_Mo_readAtom_b27 d h
theorem L_Mo_endTerm_b129 {S : pmS} (d : Nat)     {σ τ : Mem} {z : Mem}  (h : Mo_endTerm_b129 σ = some z) : pmU S (d + 1) 123 129 [some (.ref 112), none, none, none, none, none, none] [] (shH τ σ) none (shH τ z) := by
  unfold Mo_endTerm_b129 at h
  obtain ⟨g1, h⟩ := gd_in h
  refine pmSeg_U (pc' := 138) (ls' := [some (.ref 112), none, none, none, none, none, none]) (st' := [.int (σ 0 17), .ref 135, .ref 112]) 5 rfl ?_
  refine pu_iald rfl rfl g1 (shp_iM (c := 23) rfl) ?_
  refine pmSeg_U (pc' := 140) (ls' := [some (.ref 112), none, none, none, none, none, none]) (st' := [.int 0, .int (σ 23 (σ 0 17).toNatClampNeg), .ref 112]) 1 rfl ?_
  obtain ⟨q140, hq140, h⟩ := bd_in h
  refine pmU_C (av := [.ref 112, .int (σ 23 (σ 0 17).toNatClampNeg), .int 0]) (rest := []) rfl rfl rfl rfl rfl (L_Mo_emit (d + 0) hq140) ?_
  obtain ⟨g2, h⟩ := gd_in h
  refine pmSeg_U (pc' := 152) (ls' := [some (.ref 112), none, none, none, none, none, none]) (st' := [.int 0, .int (q140 0 17), .ref 135]) 5 rfl ?_
  refine pu_iast rfl rfl g2 (shp_pM (c := 23) rfl) ?_
  obtain ⟨g3, h⟩ := gd_in h
  refine pmSeg_U (pc' := 162) (ls' := [some (.ref 112), none, none, none, none, none, none]) (st' := [.int 0, .int ((mput q140 23 (q140 0 17).toNatClampNeg 0) 0 17), .ref 138]) 5 rfl ?_
  refine pu_iast rfl rfl g3 (shp_pM (c := 26) rfl) ?_
  refine pmSeg_U (pc' := 163) (ls' := [some (.ref 112), none, none, none, none, none, none]) (st' := []) 0 rfl ?_
  cases h
  exact pmU_T rfl rfl rfl rfl rfl rfl
theorem L_Mo_endTerm_b34 {S : pmS} (d : Nat)   {k9 : Int32 → Int32 → Int32 → Mem → Option Mem} (Hk9 : ∀ {v4 : Int32} {v5 : Int32} {v6 : Int32} {σ τ : Mem} {z : Mem}, k9 v4 v5 v6 σ = some z → pmU S (d + 1) 123 9 [some (.ref 112), none, none, none, some (.int v4), some (.int v5), some (.int v6)] [] (shH τ σ) none (shH τ z))  {σ τ : Mem} {z : Mem}  (h : Mo_endTerm_b34 k9 σ = some z) : pmU S (d + 1) 123 34 [some (.ref 112), none, none, none, none, none, none] [] (shH τ σ) none (shH τ z) := by
  unfold Mo_endTerm_b34 at h
  refine pmSeg_U (pc' := 38) (ls' := [some (.ref 112), none, none, none, none, none, none]) (st' := [.int 0, .int 33, .ref 112]) 3 rfl ?_
  obtain ⟨q38, hq38, h⟩ := bd_in h
  refine pmU_C (av := [.ref 112, .int 33, .int 0]) (rest := []) rfl rfl rfl rfl rfl (L_Mo_emit (d + 0) hq38) ?_
  obtain ⟨g1, h⟩ := gd_in h
  refine pmSeg_U (pc' := 55) (ls' := [some (.ref 112), none, none, none, some (.int 2), some (.int 0), none]) (st' := [.int (q38 0 17), .ref 127]) 8 rfl ?_
  refine pu_iald rfl rfl g1 (shp_iM (c := 15) rfl) ?_
  refine pmSeg_U (pc' := 65) (ls' := [some (.ref 112), none, none, none, some (.int 2), some (.int 0), some (.int (q38 15 (q38 0 17).toNatClampNeg))]) (st' := [.int ((q38 0 17) - 1), .ref 112]) 6 rfl ?_
  refine pu_put rfl rfl rfl rfl rfl (shp_pM (c := 0) rfl) ?_
  refine pmSeg_U (pc' := 9) (ls' := [some (.ref 112), none, none, none, some (.int 2), some (.int 0), some (.int (q38 15 (q38 0 17).toNatClampNeg))]) (st' := []) 1 rfl ?_
  exact Hk9 h
