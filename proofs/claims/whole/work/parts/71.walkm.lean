theorem L_Mo_endRow_b34 {S : pmS} (d : Nat)    {v1 : Int32} {v2 : Int32} {s0 : Int32} {σ τ : Mem} {z : Mem}  (h : Mo_endRow_b34 v1 v2 s0 σ = some z) : pmU S (d + 4) 129 34 [some (.ref 112), some (.int v1), some (.int v2), none, none] [.int s0] (shH τ σ) none (shH τ z) := by
  unfold Mo_endRow_b34 at h
  refine pmSeg_U (pc' := 36) (ls' := [some (.ref 112), some (.int v1), some (.int v2), some (.int s0), none]) (st' := [.int s0]) 2 rfl ?_
  refine pu_ifP (tg := 49) h rfl rfl rfl (fun h => ?_) (fun h => ?_)
  · refine pmSeg_U (pc' := 49) (ls' := [some (.ref 112), some (.int v1), some (.int v2), some (.int s0), none]) (st' := []) 0 rfl ?_
    refine pmU_le (a := [some (.ref 112), some (.int v1), some (.int v2), none, none]) (le_s (le_s (le_s (le_v rfl (le_s le_nil))))) ?_
    exact L_Mo_endRow_b49 d h
  · obtain ⟨g1, h⟩ := gd_in h
    refine pmSeg_U (pc' := 44) (ls' := [some (.ref 112), some (.int v1), some (.int v2), some (.int s0), none]) (st' := [.int v1, .ref 149]) 3 rfl ?_
    refine pu_iald rfl rfl g1 (shp_iM (c := 37) rfl) ?_
    refine pmSeg_U (pc' := 46) (ls' := [some (.ref 112), some (.int v1), some (.int v2), some (.int s0), none]) (st' := [.int 2, .int (σ 37 v1.toNatClampNeg)]) 1 rfl ?_
    refine pu_icmpP (tg := 84) h rfl rfl rfl (fun h => ?_) (fun h => ?_)
    · refine pmSeg_U (pc' := 84) (ls' := [some (.ref 112), some (.int v1), some (.int v2), some (.int s0), none]) (st' := []) 0 rfl ?_
      refine pmU_le (a := [some (.ref 112), some (.int v1), some (.int v2), none, none]) (le_s (le_s (le_s (le_v rfl (le_s le_nil))))) ?_
      exact L_Mo_endRow_b84 d h
    · refine pmSeg_U (pc' := 49) (ls' := [some (.ref 112), some (.int v1), some (.int v2), some (.int s0), none]) (st' := []) 0 rfl ?_
      refine pmU_le (a := [some (.ref 112), some (.int v1), some (.int v2), none, none]) (le_s (le_s (le_s (le_v rfl (le_s le_nil))))) ?_
      exact L_Mo_endRow_b49 d h
theorem L_Mo_endRow_b29 {S : pmS} (d : Nat)    {v1 : Int32} {v2 : Int32} {σ τ : Mem} {z : Mem}  (h : Mo_endRow_b29 v1 v2 σ = some z) : pmU S (d + 4) 129 29 [some (.ref 112), some (.int v1), some (.int v2), none, none] [] (shH τ σ) none (shH τ z) := by
  unfold Mo_endRow_b29 at h
  refine pmSeg_U (pc' := 34) (ls' := [some (.ref 112), some (.int v1), some (.int v2), none, none]) (st' := [.int 1]) 2 rfl ?_
  exact L_Mo_endRow_b34 d h
theorem L_Mo_endRow_b33 {S : pmS} (d : Nat)    {v1 : Int32} {v2 : Int32} {σ τ : Mem} {z : Mem}  (h : Mo_endRow_b33 v1 v2 σ = some z) : pmU S (d + 4) 129 33 [some (.ref 112), some (.int v1), some (.int v2), none, none] [] (shH τ σ) none (shH τ z) := by
  unfold Mo_endRow_b33 at h
  refine pmSeg_U (pc' := 34) (ls' := [some (.ref 112), some (.int v1), some (.int v2), none, none]) (st' := [.int 0]) 1 rfl ?_
  exact L_Mo_endRow_b34 d h
theorem L_Mo_endRow {S : pmS} (d : Nat) {v1 : Int32} {v2 : Int32} {σ τ : Mem} {z : Mem}  (h : Mo_endRow v1 v2 σ = some z) : pmX S (d + 5) 129 [.ref 112, .int v1, .int v2] (shH τ σ) none (shH τ z) := by
  unfold Mo_endRow at h
  refine pmU_X rfl ?_
  obtain ⟨g1, h⟩ := gd_in h
  refine pmSeg_U (pc' := 5) (ls' := [some (.ref 112), some (.int v1), some (.int v2), none, none]) (st' := [.int v1, .ref 126]) 3 rfl ?_
  refine pu_iald rfl rfl g1 (shp_iM (c := 14) rfl) ?_
  refine pmSeg_U (pc' := 7) (ls' := [some (.ref 112), some (.int v1), some (.int v2), none, none]) (st' := [.int 1, .int (σ 14 v1.toNatClampNeg)]) 1 rfl ?_
  refine pu_icmpP (tg := 29) h rfl rfl rfl (fun h => ?_) (fun h => ?_)
  · refine pmSeg_U (pc' := 29) (ls' := [some (.ref 112), some (.int v1), some (.int v2), none, none]) (st' := []) 0 rfl ?_
    exact L_Mo_endRow_b29 d h
  · obtain ⟨g2, h⟩ := gd_in h
    refine pmSeg_U (pc' := 15) (ls' := [some (.ref 112), some (.int v1), some (.int v2), none, none]) (st' := [.int v1, .ref 126]) 3 rfl ?_
    refine pu_iald rfl rfl g2 (shp_iM (c := 14) rfl) ?_
    refine pmSeg_U (pc' := 17) (ls' := [some (.ref 112), some (.int v1), some (.int v2), none, none]) (st' := [.int 3, .int (σ 14 v1.toNatClampNeg)]) 1 rfl ?_
    refine pu_icmpP (tg := 33) h rfl rfl rfl (fun h => ?_) (fun h => ?_)
    · refine pmSeg_U (pc' := 33) (ls' := [some (.ref 112), some (.int v1), some (.int v2), none, none]) (st' := []) 0 rfl ?_
      exact L_Mo_endRow_b33 d h
    · obtain ⟨g3, h⟩ := gd_in h
      refine pmSeg_U (pc' := 25) (ls' := [some (.ref 112), some (.int v1), some (.int v2), none, none]) (st' := [.int v1, .ref 128]) 3 rfl ?_
      refine pu_iald rfl rfl g3 (shp_iM (c := 16) rfl) ?_
      refine pmSeg_U (pc' := 26) (ls' := [some (.ref 112), some (.int v1), some (.int v2), none, none]) (st' := [.int (σ 16 v1.toNatClampNeg)]) 0 rfl ?_
      refine pu_ifP (tg := 33) h rfl rfl rfl (fun h => ?_) (fun h => ?_)
      · refine pmSeg_U (pc' := 33) (ls' := [some (.ref 112), some (.int v1), some (.int v2), none, none]) (st' := []) 0 rfl ?_
        exact L_Mo_endRow_b33 d h
      · refine pmSeg_U (pc' := 29) (ls' := [some (.ref 112), some (.int v1), some (.int v2), none, none]) (st' := []) 0 rfl ?_
        exact L_Mo_endRow_b29 d h
theorem L_Mo_endAnd_b137 {S : pmS} (d : Nat)    {v1 : Int32} {σ τ : Mem} {z : Mem}  (h : Mo_endAnd_b137 v1 σ = some z) : pmU S (d + 5) 127 137 [some (.ref 112), some (.int v1), none] [] (shH τ σ) none (shH τ z) := by
  unfold Mo_endAnd_b137 at h
  obtain ⟨g1, h⟩ := gd_in h
  refine pmSeg_U (pc' := 144) (ls' := [some (.ref 112), some (.int v1), none]) (st' := [.int v1, .ref 151, .int 2, .ref 112]) 5 rfl ?_
  refine pu_iald rfl rfl g1 (shp_iM (c := 39) rfl) ?_
  refine pmSeg_U (pc' := 145) (ls' := [some (.ref 112), some (.int v1), none]) (st' := [.int (σ 39 v1.toNatClampNeg), .int 2, .ref 112]) 0 rfl ?_
  obtain ⟨q145, hq145, h⟩ := bd_in h
  refine pmU_C (av := [.ref 112, .int 2, .int (σ 39 v1.toNatClampNeg)]) (rest := []) rfl rfl rfl rfl rfl (L_Mo_emit (d + 4) hq145) ?_
  obtain ⟨g2, h⟩ := gd_in h
  refine pmSeg_U (pc' := 159) (ls' := [some (.ref 112), some (.int v1), none]) (st' := [.int 16, .ref 123, .int v1, .ref 151]) 6 rfl ?_
  refine pu_iald rfl rfl g2 (shp_iM (c := 11) rfl) ?_
  obtain ⟨g3, h⟩ := gd_in h
  refine pmSeg_U (pc' := 162) (ls' := [some (.ref 112), some (.int v1), none]) (st' := [.int ((q145 11 16) - 1), .int v1, .ref 151]) 2 rfl ?_
  refine pu_iast rfl rfl g3 (shp_pM (c := 39) rfl) ?_
  obtain ⟨g4, h⟩ := gd_in h
  refine pmSeg_U (pc' := 169) (ls' := [some (.ref 112), some (.int v1), none]) (st' := [.int 1, .int v1, .ref 147]) 4 rfl ?_
  refine pu_bast rfl rfl g4 rfl (shp_pM (c := 35) rfl) ?_
  refine pmSeg_U (pc' := 177) (ls' := [some (.ref 112), some (.int v1), none]) (st' := [.int (((mput (mput q145 39 v1.toNatClampNeg ((q145 11 16) - 1)) 35 v1.toNatClampNeg 1) 0 14) + 1), .ref 112]) 5 rfl ?_
  refine pu_put rfl rfl rfl rfl rfl (shp_pM (c := 0) rfl) ?_
  refine pmSeg_U (pc' := 180) (ls' := [some (.ref 112), some (.int v1), none]) (st' := []) 0 rfl ?_
  cases h
  exact pmU_T rfl rfl rfl rfl rfl rfl
theorem L_Mo_endAnd_b111 {S : pmS} (d : Nat)    {v1 : Int32} {v2 : Int32} {σ τ : Mem} {z : Mem}  (h : Mo_endAnd_b111 v1 v2 σ = some z) : pmU S (d + 5) 127 111 [some (.ref 112), some (.int v1), some (.int v2)] [] (shH τ σ) none (shH τ z) := by
  unfold Mo_endAnd_b111 at h
  refine pmSeg_U (pc' := 114) (ls' := [some (.ref 112), some (.int v1), some (.int v2)]) (st' := [.int 124, .int v2]) 2 rfl ?_
  refine pu_icmpP (tg := 181) h rfl rfl rfl (fun h => ?_) (fun h => ?_)
  · obtain ⟨g1, h⟩ := gd_in h
    refine pmSeg_U (pc' := 187) (ls' := [some (.ref 112), some (.int v1), some (.int v2)]) (st' := [.int v1, .ref 151, .ref 112]) 4 rfl ?_
    refine pu_iald rfl rfl g1 (shp_iM (c := 39) rfl) ?_
    refine pmSeg_U (pc' := 188) (ls' := [some (.ref 112), some (.int v1), some (.int v2)]) (st' := [.int (σ 39 v1.toNatClampNeg), .ref 112]) 0 rfl ?_
    obtain ⟨q188, hq188, h⟩ := bd_in h
    refine pmU_C (av := [.ref 112, .int (σ 39 v1.toNatClampNeg)]) (rest := []) rfl rfl rfl rfl rfl (L_Mo_patch (d + 4) hq188) ?_
    obtain ⟨g2, h⟩ := gd_in h
    refine pmSeg_U (pc' := 197) (ls' := [some (.ref 112), some (.int v1), some (.int v2)]) (st' := [.int (-1), .int v1, .ref 151]) 4 rfl ?_
    refine pu_iast rfl rfl g2 (shp_pM (c := 39) rfl) ?_
    refine pmSeg_U (pc' := 201) (ls' := [some (.ref 112), some (.int v1), some (.int v2)]) (st' := [.int v2, .int v1, .ref 112]) 3 rfl ?_
    obtain ⟨q201, hq201, h⟩ := bd_in h
    refine pmU_C (av := [.ref 112, .int v1, .int v2]) (rest := []) rfl rfl rfl rfl rfl (L_Mo_endRow (d + 0) hq201) ?_
    refine pmSeg_U (pc' := 204) (ls' := [some (.ref 112), some (.int v1), some (.int v2)]) (st' := []) 0 rfl ?_
    cases h
    exact pmU_T rfl rfl rfl rfl rfl rfl
  · obtain ⟨g3, h⟩ := gd_in h
    refine pmSeg_U (pc' := 122) (ls' := [some (.ref 112), some (.int v1), some (.int v2)]) (st' := [.int v1, .ref 149]) 3 rfl ?_
    refine pu_iald rfl rfl g3 (shp_iM (c := 37) rfl) ?_
    refine pmSeg_U (pc' := 124) (ls' := [some (.ref 112), some (.int v1), some (.int v2)]) (st' := [.int 2, .int (σ 37 v1.toNatClampNeg)]) 1 rfl ?_
    refine pu_icmpP (tg := 137) h rfl rfl rfl (fun h => ?_) (fun h => ?_)
    · refine pmSeg_U (pc' := 137) (ls' := [some (.ref 112), some (.int v1), some (.int v2)]) (st' := []) 0 rfl ?_
      refine pmU_le (a := [some (.ref 112), some (.int v1), none]) (le_s (le_s (le_v rfl le_nil))) ?_
      exact L_Mo_endAnd_b137 d h
    · obtain ⟨g4, h⟩ := gd_in h
      refine pmSeg_U (pc' := 133) (ls' := [some (.ref 112), some (.int v1), some (.int v2)]) (st' := [.int v1, .ref 148, .ref 112]) 4 rfl ?_
      refine pu_iald rfl rfl g4 (shp_iM (c := 36) rfl) ?_
      refine pmSeg_U (pc' := 134) (ls' := [some (.ref 112), some (.int v1), some (.int v2)]) (st' := [.int (σ 36 v1.toNatClampNeg), .ref 112]) 0 rfl ?_
      obtain ⟨q134, hq134, h⟩ := bd_in h
      refine pmU_C (av := [.ref 112, .int (σ 36 v1.toNatClampNeg)]) (rest := []) rfl rfl rfl rfl rfl (L_Mo_wrongType (d + 4) hq134) ?_
      refine pmSeg_U (pc' := 137) (ls' := [some (.ref 112), some (.int v1), some (.int v2)]) (st' := []) 0 rfl ?_
      refine pmU_le (a := [some (.ref 112), some (.int v1), none]) (le_s (le_s (le_v rfl le_nil))) ?_
      exact L_Mo_endAnd_b137 d h
theorem L_Mo_endAnd_b53 {S : pmS} (d : Nat)    {v1 : Int32} {v2 : Int32} {σ τ : Mem} {z : Mem}  (h : Mo_endAnd_b53 v1 v2 σ = some z) : pmU S (d + 5) 127 53 [some (.ref 112), some (.int v1), some (.int v2)] [] (shH τ σ) none (shH τ z) := by
  unfold Mo_endAnd_b53 at h
  obtain ⟨g1, h⟩ := gd_in h
  refine pmSeg_U (pc' := 63) (ls' := [some (.ref 112), some (.int v1), some (.int v2)]) (st' := [.int v1, .ref 150, .int v1, .ref 150]) 6 rfl ?_
  refine pu_iald rfl rfl g1 (shp_iM (c := 38) rfl) ?_
  obtain ⟨g2, h⟩ := gd_in h
  refine pmSeg_U (pc' := 69) (ls' := [some (.ref 112), some (.int v1), some (.int v2)]) (st' := [.int v1, .ref 145, .int (σ 38 v1.toNatClampNeg), .int v1, .ref 150]) 3 rfl ?_
  refine pu_iald rfl rfl g2 (shp_iM (c := 33) rfl) ?_
  obtain ⟨g3, h⟩ := gd_in h
  refine pmSeg_U (pc' := 71) (ls' := [some (.ref 112), some (.int v1), some (.int v2)]) (st' := [.int ((σ 38 v1.toNatClampNeg) &&& (σ 33 v1.toNatClampNeg)), .int v1, .ref 150]) 1 rfl ?_
  refine pu_iast rfl rfl g3 (shp_pM (c := 38) rfl) ?_
  refine pmSeg_U (pc' := 111) (ls' := [some (.ref 112), some (.int v1), some (.int v2)]) (st' := []) 1 rfl ?_
  exact L_Mo_endAnd_b111 d h
theorem L_Mo_endAnd {S : pmS} (d : Nat) {v1 : Int32} {v2 : Int32} {σ τ : Mem} {z : Mem}  (h : Mo_endAnd v1 v2 σ = some z) : pmX S (d + 6) 127 [.ref 112, .int v1, .int v2] (shH τ σ) none (shH τ z) := by
  unfold Mo_endAnd at h
  refine pmU_X rfl ?_
  obtain ⟨g1, h⟩ := gd_in h
  refine pmSeg_U (pc' := 6) (ls' := [some (.ref 112), some (.int v1), some (.int v2)]) (st' := [.int v1, .ref 146, .ref 112]) 4 rfl ?_
  refine pu_iald rfl rfl g1 (shp_iM (c := 34) rfl) ?_
  refine pmSeg_U (pc' := 7) (ls' := [some (.ref 112), some (.int v1), some (.int v2)]) (st' := [.int (σ 34 v1.toNatClampNeg), .ref 112]) 0 rfl ?_
  obtain ⟨q7, hq7, h⟩ := bd_in h
  refine pmU_C (av := [.ref 112, .int (σ 34 v1.toNatClampNeg)]) (rest := []) rfl rfl rfl rfl rfl (L_Mo_patch (d + 4) hq7) ?_
  obtain ⟨g2, h⟩ := gd_in h
  refine pmSeg_U (pc' := 16) (ls' := [some (.ref 112), some (.int v1), some (.int v2)]) (st' := [.int (-1), .int v1, .ref 146]) 4 rfl ?_
  refine pu_iast rfl rfl g2 (shp_pM (c := 34) rfl) ?_
  obtain ⟨g3, h⟩ := gd_in h
  refine pmSeg_U (pc' := 23) (ls' := [some (.ref 112), some (.int v1), some (.int v2)]) (st' := [.int 0, .int v1, .ref 142]) 4 rfl ?_
  refine pu_bast rfl rfl g3 rfl (shp_pM (c := 30) rfl) ?_
  obtain ⟨g4, h⟩ := gd_in h
  refine pmSeg_U (pc' := 29) (ls' := [some (.ref 112), some (.int v1), some (.int v2)]) (st' := [.int v1, .ref 147]) 3 rfl ?_
  refine pu_bald rfl rfl g4 (shp_iM (c := 35) rfl) ?_
  refine pmSeg_U (pc' := 30) (ls' := [some (.ref 112), some (.int v1), some (.int v2)]) (st' := [.int ((mput (mput q7 34 v1.toNatClampNeg (-1)) 30 v1.toNatClampNeg 0) 35 v1.toNatClampNeg)]) 0 rfl ?_
  refine pu_ifP (tg := 75) h rfl rfl rfl (fun h => ?_) (fun h => ?_)
  · obtain ⟨g5, h⟩ := gd_in h
    refine pmSeg_U (pc' := 85) (ls' := [some (.ref 112), some (.int v1), some (.int v2)]) (st' := [.int v1, .ref 144, .int v1, .ref 149]) 6 rfl ?_
    refine pu_iald rfl rfl g5 (shp_iM (c := 32) rfl) ?_
    obtain ⟨g6, h⟩ := gd_in h
    refine pmSeg_U (pc' := 86) (ls' := [some (.ref 112), some (.int v1), some (.int v2)]) (st' := [.int ((mput (mput q7 34 v1.toNatClampNeg (-1)) 30 v1.toNatClampNeg 0) 32 v1.toNatClampNeg), .int v1, .ref 149]) 0 rfl ?_
    refine pu_iast rfl rfl g6 (shp_pM (c := 37) rfl) ?_
    obtain ⟨g7, h⟩ := gd_in h
    refine pmSeg_U (pc' := 97) (ls' := [some (.ref 112), some (.int v1), some (.int v2)]) (st' := [.int v1, .ref 145, .int v1, .ref 150]) 6 rfl ?_
    refine pu_iald rfl rfl g7 (shp_iM (c := 33) rfl) ?_
    obtain ⟨g8, h⟩ := gd_in h
    refine pmSeg_U (pc' := 98) (ls' := [some (.ref 112), some (.int v1), some (.int v2)]) (st' := [.int ((mput (mput (mput q7 34 v1.toNatClampNeg (-1)) 30 v1.toNatClampNeg 0) 37 v1.toNatClampNeg ((mput (mput q7 34 v1.toNatClampNeg (-1)) 30 v1.toNatClampNeg 0) 32 v1.toNatClampNeg)) 33 v1.toNatClampNeg), .int v1, .ref 150]) 0 rfl ?_
    refine pu_iast rfl rfl g8 (shp_pM (c := 38) rfl) ?_
    obtain ⟨g9, h⟩ := gd_in h
    refine pmSeg_U (pc' := 109) (ls' := [some (.ref 112), some (.int v1), some (.int v2)]) (st' := [.int v1, .ref 143, .int v1, .ref 148]) 6 rfl ?_
    refine pu_iald rfl rfl g9 (shp_iM (c := 31) rfl) ?_
    obtain ⟨g10, h⟩ := gd_in h
    refine pmSeg_U (pc' := 110) (ls' := [some (.ref 112), some (.int v1), some (.int v2)]) (st' := [.int ((mput (mput (mput (mput q7 34 v1.toNatClampNeg (-1)) 30 v1.toNatClampNeg 0) 37 v1.toNatClampNeg ((mput (mput q7 34 v1.toNatClampNeg (-1)) 30 v1.toNatClampNeg 0) 32 v1.toNatClampNeg)) 38 v1.toNatClampNeg ((mput (mput (mput q7 34 v1.toNatClampNeg (-1)) 30 v1.toNatClampNeg 0) 37 v1.toNatClampNeg ((mput (mput q7 34 v1.toNatClampNeg (-1)) 30 v1.toNatClampNeg 0) 32 v1.toNatClampNeg)) 33 v1.toNatClampNeg)) 31 v1.toNatClampNeg), .int v1, .ref 148]) 0 rfl ?_
    refine pu_iast rfl rfl g10 (shp_pM (c := 36) rfl) ?_
    refine pmSeg_U (pc' := 111) (ls' := [some (.ref 112), some (.int v1), some (.int v2)]) (st' := []) 0 rfl ?_
    exact L_Mo_endAnd_b111 d h
  · obtain ⟨g11, h⟩ := gd_in h
    refine pmSeg_U (pc' := 38) (ls' := [some (.ref 112), some (.int v1), some (.int v2)]) (st' := [.int v1, .ref 144]) 3 rfl ?_
    refine pu_iald rfl rfl g11 (shp_iM (c := 32) rfl) ?_
    refine pmSeg_U (pc' := 40) (ls' := [some (.ref 112), some (.int v1), some (.int v2)]) (st' := [.int 2, .int ((mput (mput q7 34 v1.toNatClampNeg (-1)) 30 v1.toNatClampNeg 0) 32 v1.toNatClampNeg)]) 1 rfl ?_
    refine pu_icmpP (tg := 53) h rfl rfl rfl (fun h => ?_) (fun h => ?_)
    · refine pmSeg_U (pc' := 53) (ls' := [some (.ref 112), some (.int v1), some (.int v2)]) (st' := []) 0 rfl ?_
      exact L_Mo_endAnd_b53 d h
    · obtain ⟨g12, h⟩ := gd_in h
      refine pmSeg_U (pc' := 49) (ls' := [some (.ref 112), some (.int v1), some (.int v2)]) (st' := [.int v1, .ref 143, .ref 112]) 4 rfl ?_
      refine pu_iald rfl rfl g12 (shp_iM (c := 31) rfl) ?_
      refine pmSeg_U (pc' := 50) (ls' := [some (.ref 112), some (.int v1), some (.int v2)]) (st' := [.int ((mput (mput q7 34 v1.toNatClampNeg (-1)) 30 v1.toNatClampNeg 0) 31 v1.toNatClampNeg), .ref 112]) 0 rfl ?_
      obtain ⟨q50, hq50, h⟩ := bd_in h
      refine pmU_C (av := [.ref 112, .int ((mput (mput q7 34 v1.toNatClampNeg (-1)) 30 v1.toNatClampNeg 0) 31 v1.toNatClampNeg)]) (rest := []) rfl rfl rfl rfl rfl (L_Mo_wrongType (d + 4) hq50) ?_
      refine pmSeg_U (pc' := 53) (ls' := [some (.ref 112), some (.int v1), some (.int v2)]) (st' := []) 0 rfl ?_
      exact L_Mo_endAnd_b53 d h
theorem L_Mo_goOn_b50 {S : pmS} (d : Nat)    {v1 : Int32} {v2 : Int32} {σ τ : Mem} {z : Mem}  (h : Mo_goOn_b50 v1 v2 σ = some z) : pmU S (d + 6) 125 50 [some (.ref 112), some (.int v1), some (.int v2), none, none, none] [] (shH τ σ) none (shH τ z) := by
  unfold Mo_goOn_b50 at h
  obtain ⟨g1, h⟩ := gd_in h
  refine pmSeg_U (pc' := 56) (ls' := [some (.ref 112), some (.int v1), some (.int v2), none, none, none]) (st' := [.int v1, .int v2, .ref 135]) 4 rfl ?_
  refine pu_iast rfl rfl g1 (shp_pM (c := 23) rfl) ?_
  refine pmSeg_U (pc' := 64) (ls' := [some (.ref 112), some (.int v1), some (.int v2), none, none, none]) (st' := [.int (((mput σ 23 v2.toNatClampNeg v1) 0 14) + 1), .ref 112]) 5 rfl ?_
  refine pu_put rfl rfl rfl rfl rfl (shp_pM (c := 0) rfl) ?_
  refine pmSeg_U (pc' := 67) (ls' := [some (.ref 112), some (.int v1), some (.int v2), none, none, none]) (st' := []) 0 rfl ?_
  cases h
  exact pmU_T rfl rfl rfl rfl rfl rfl
theorem L_Mo_goOn_b30 {S : pmS} (d : Nat)    {v1 : Int32} {v2 : Int32} {σ τ : Mem} {z : Mem}  (h : Mo_goOn_b30 v1 v2 σ = some z) : pmU S (d + 6) 125 30 [some (.ref 112), some (.int v1), some (.int v2), none, none, none] [] (shH τ σ) none (shH τ z) := by
  unfold Mo_goOn_b30 at h
  obtain ⟨g1, h⟩ := gd_in h
  refine pmSeg_U (pc' := 35) (ls' := [some (.ref 112), some (.int v1), some (.int v2), none, none, none]) (st' := [.int v2, .ref 137]) 3 rfl ?_
  refine pu_iald rfl rfl g1 (shp_iM (c := 25) rfl) ?_
  refine pmSeg_U (pc' := 37) (ls' := [some (.ref 112), some (.int v1), some (.int v2), none, none, none]) (st' := [.int 1, .int (σ 25 v2.toNatClampNeg)]) 1 rfl ?_
  refine pu_icmpP (tg := 50) h rfl rfl rfl (fun h => ?_) (fun h => ?_)
  · refine pmSeg_U (pc' := 50) (ls' := [some (.ref 112), some (.int v1), some (.int v2), none, none, none]) (st' := []) 0 rfl ?_
    exact L_Mo_goOn_b50 d h
  · obtain ⟨g2, h⟩ := gd_in h
    refine pmSeg_U (pc' := 46) (ls' := [some (.ref 112), some (.int v1), some (.int v2), none, none, none]) (st' := [.int v2, .ref 136, .ref 112]) 4 rfl ?_
    refine pu_iald rfl rfl g2 (shp_iM (c := 24) rfl) ?_
    refine pmSeg_U (pc' := 47) (ls' := [some (.ref 112), some (.int v1), some (.int v2), none, none, none]) (st' := [.int (σ 24 v2.toNatClampNeg), .ref 112]) 0 rfl ?_
    obtain ⟨q47, hq47, h⟩ := bd_in h
    refine pmU_C (av := [.ref 112, .int (σ 24 v2.toNatClampNeg)]) (rest := []) rfl rfl rfl rfl rfl (L_Mo_wrongType (d + 5) hq47) ?_
    refine pmSeg_U (pc' := 50) (ls' := [some (.ref 112), some (.int v1), some (.int v2), none, none, none]) (st' := []) 0 rfl ?_
    exact L_Mo_goOn_b50 d h
theorem L_Mo_goOn_b309 {S : pmS} (d : Nat)    {v2 : Int32} {σ τ : Mem} {z : Mem}  (h : Mo_goOn_b309 v2 σ = some z) : pmU S (d + 6) 125 309 [some (.ref 112), none, some (.int v2), none, none, none] [] (shH τ σ) none (shH τ z) := by
  unfold Mo_goOn_b309 at h
  obtain ⟨g1, h⟩ := gd_in h
  refine pmSeg_U (pc' := 316) (ls' := [some (.ref 112), none, some (.int v2), none, none, none]) (st' := [.int v2, .ref 146, .int 1, .ref 112]) 5 rfl ?_
  refine pu_iald rfl rfl g1 (shp_iM (c := 34) rfl) ?_
  refine pmSeg_U (pc' := 317) (ls' := [some (.ref 112), none, some (.int v2), none, none, none]) (st' := [.int (σ 34 v2.toNatClampNeg), .int 1, .ref 112]) 0 rfl ?_
  obtain ⟨q317, hq317, h⟩ := bd_in h
  refine pmU_C (av := [.ref 112, .int 1, .int (σ 34 v2.toNatClampNeg)]) (rest := []) rfl rfl rfl rfl rfl (L_Mo_emit (d + 5) hq317) ?_
  obtain ⟨g2, h⟩ := gd_in h
  refine pmSeg_U (pc' := 331) (ls' := [some (.ref 112), none, some (.int v2), none, none, none]) (st' := [.int 16, .ref 123, .int v2, .ref 146]) 6 rfl ?_
  refine pu_iald rfl rfl g2 (shp_iM (c := 11) rfl) ?_
  obtain ⟨g3, h⟩ := gd_in h
  refine pmSeg_U (pc' := 334) (ls' := [some (.ref 112), none, some (.int v2), none, none, none]) (st' := [.int ((q317 11 16) - 1), .int v2, .ref 146]) 2 rfl ?_
  refine pu_iast rfl rfl g3 (shp_pM (c := 34) rfl) ?_
  obtain ⟨g4, h⟩ := gd_in h
  refine pmSeg_U (pc' := 341) (ls' := [some (.ref 112), none, some (.int v2), none, none, none]) (st' := [.int 1, .int v2, .ref 142]) 4 rfl ?_
  refine pu_bast rfl rfl g4 rfl (shp_pM (c := 30) rfl) ?_
  refine pmSeg_U (pc' := 349) (ls' := [some (.ref 112), none, some (.int v2), none, none, none]) (st' := [.int (((mput (mput q317 34 v2.toNatClampNeg ((q317 11 16) - 1)) 30 v2.toNatClampNeg 1) 0 14) + 1), .ref 112]) 5 rfl ?_
  refine pu_put rfl rfl rfl rfl rfl (shp_pM (c := 0) rfl) ?_
  refine pmSeg_U (pc' := 352) (ls' := [some (.ref 112), none, some (.int v2), none, none, none]) (st' := []) 0 rfl ?_
  cases h
  exact pmU_T rfl rfl rfl rfl rfl rfl
theorem L_Mo_goOn_b283 {S : pmS} (d : Nat)    {v1 : Int32} {v2 : Int32} {σ τ : Mem} {z : Mem}  (h : Mo_goOn_b283 v1 v2 σ = some z) : pmU S (d + 6) 125 283 [some (.ref 112), some (.int v1), some (.int v2), none, none, none] [] (shH τ σ) none (shH τ z) := by
  unfold Mo_goOn_b283 at h
  refine pmSeg_U (pc' := 286) (ls' := [some (.ref 112), some (.int v1), some (.int v2), none, none, none]) (st' := [.int 38, .int v1]) 2 rfl ?_
  refine pu_icmpP (tg := 353) h rfl rfl rfl (fun h => ?_) (fun h => ?_)
  · refine pmSeg_U (pc' := 356) (ls' := [some (.ref 112), some (.int v1), some (.int v2), none, none, none]) (st' := [.int v1, .int v2, .ref 112]) 3 rfl ?_
    obtain ⟨q356, hq356, h⟩ := bd_in h
    refine pmU_C (av := [.ref 112, .int v2, .int v1]) (rest := []) rfl rfl rfl rfl rfl (L_Mo_endAnd (d + 0) hq356) ?_
    refine pmSeg_U (pc' := 359) (ls' := [some (.ref 112), some (.int v1), some (.int v2), none, none, none]) (st' := []) 0 rfl ?_
    cases h
    exact pmU_T rfl rfl rfl rfl rfl rfl
  · obtain ⟨g1, h⟩ := gd_in h
    refine pmSeg_U (pc' := 294) (ls' := [some (.ref 112), some (.int v1), some (.int v2), none, none, none]) (st' := [.int v2, .ref 144]) 3 rfl ?_
    refine pu_iald rfl rfl g1 (shp_iM (c := 32) rfl) ?_
    refine pmSeg_U (pc' := 296) (ls' := [some (.ref 112), some (.int v1), some (.int v2), none, none, none]) (st' := [.int 2, .int (σ 32 v2.toNatClampNeg)]) 1 rfl ?_
    refine pu_icmpP (tg := 309) h rfl rfl rfl (fun h => ?_) (fun h => ?_)
    · refine pmSeg_U (pc' := 309) (ls' := [some (.ref 112), some (.int v1), some (.int v2), none, none, none]) (st' := []) 0 rfl ?_
      refine pmU_le (a := [some (.ref 112), none, some (.int v2), none, none, none]) (le_s (le_v rfl (le_s (le_s (le_s (le_s le_nil)))))) ?_
      exact L_Mo_goOn_b309 d h
    · obtain ⟨g2, h⟩ := gd_in h
      refine pmSeg_U (pc' := 305) (ls' := [some (.ref 112), some (.int v1), some (.int v2), none, none, none]) (st' := [.int v2, .ref 143, .ref 112]) 4 rfl ?_
      refine pu_iald rfl rfl g2 (shp_iM (c := 31) rfl) ?_
      refine pmSeg_U (pc' := 306) (ls' := [some (.ref 112), some (.int v1), some (.int v2), none, none, none]) (st' := [.int (σ 31 v2.toNatClampNeg), .ref 112]) 0 rfl ?_
      obtain ⟨q306, hq306, h⟩ := bd_in h
      refine pmU_C (av := [.ref 112, .int (σ 31 v2.toNatClampNeg)]) (rest := []) rfl rfl rfl rfl rfl (L_Mo_wrongType (d + 5) hq306) ?_
      refine pmSeg_U (pc' := 309) (ls' := [some (.ref 112), some (.int v1), some (.int v2), none, none, none]) (st' := []) 0 rfl ?_
      refine pmU_le (a := [some (.ref 112), none, some (.int v2), none, none, none]) (le_s (le_v rfl (le_s (le_s (le_s (le_s le_nil)))))) ?_
      exact L_Mo_goOn_b309 d h
theorem L_Mo_goOn_b242 {S : pmS} (d : Nat)    {v1 : Int32} {v2 : Int32} {v4 : Int32} {σ τ : Mem} {z : Mem}  (h : Mo_goOn_b242 v1 v2 v4 σ = some z) : pmU S (d + 6) 125 242 [some (.ref 112), some (.int v1), some (.int v2), none, some (.int v4), none] [] (shH τ σ) none (shH τ z) := by
  unfold Mo_goOn_b242 at h
  obtain ⟨g1, h⟩ := gd_in h
  refine pmSeg_U (pc' := 252) (ls' := [some (.ref 112), some (.int v1), some (.int v2), none, some (.int v4), none]) (st' := [.int v2, .ref 145, .int v2, .ref 145]) 6 rfl ?_
  refine pu_iald rfl rfl g1 (shp_iM (c := 33) rfl) ?_
  obtain ⟨g2, h⟩ := gd_in h
  refine pmSeg_U (pc' := 256) (ls' := [some (.ref 112), some (.int v1), some (.int v2), none, some (.int v4), none]) (st' := [.int ((σ 33 v2.toNatClampNeg) ||| v4), .int v2, .ref 145]) 2 rfl ?_
  refine pu_iast rfl rfl g2 (shp_pM (c := 33) rfl) ?_
  refine pmSeg_U (pc' := 283) (ls' := [some (.ref 112), some (.int v1), some (.int v2), none, some (.int v4), none]) (st' := []) 1 rfl ?_
  refine pmU_le (a := [some (.ref 112), some (.int v1), some (.int v2), none, none, none]) (le_s (le_s (le_s (le_s (le_v rfl (le_s le_nil)))))) ?_
  exact L_Mo_goOn_b283 d h
theorem L_Mo_goOn_b222 {S : pmS} (d : Nat)    {v1 : Int32} {v2 : Int32} {v3 : Int32} {v4 : Int32} {v5 : Int32} {σ τ : Mem} {z : Mem}  (h : Mo_goOn_b222 v1 v2 v3 v4 v5 σ = some z) : pmU S (d + 6) 125 222 [some (.ref 112), some (.int v1), some (.int v2), some (.int v3), some (.int v4), some (.int v5)] [] (shH τ σ) none (shH τ z) := by
  unfold Mo_goOn_b222 at h
  obtain ⟨g1, h⟩ := gd_in h
  refine pmSeg_U (pc' := 227) (ls' := [some (.ref 112), some (.int v1), some (.int v2), some (.int v3), some (.int v4), some (.int v5)]) (st' := [.int v2, .ref 142]) 3 rfl ?_
  refine pu_bald rfl rfl g1 (shp_iM (c := 30) rfl) ?_
  refine pmSeg_U (pc' := 228) (ls' := [some (.ref 112), some (.int v1), some (.int v2), some (.int v3), some (.int v4), some (.int v5)]) (st' := [.int (σ 30 v2.toNatClampNeg)]) 0 rfl ?_
  refine pu_ifP (tg := 260) h rfl rfl rfl (fun h => ?_) (fun h => ?_)
  · obtain ⟨g2, h⟩ := gd_in h
    refine pmSeg_U (pc' := 266) (ls' := [some (.ref 112), some (.int v1), some (.int v2), some (.int v3), some (.int v4), some (.int v5)]) (st' := [.int v3, .int v2, .ref 144]) 4 rfl ?_
    refine pu_iast rfl rfl g2 (shp_pM (c := 32) rfl) ?_
    obtain ⟨g3, h⟩ := gd_in h
    refine pmSeg_U (pc' := 274) (ls' := [some (.ref 112), some (.int v1), some (.int v2), some (.int v3), some (.int v4), some (.int v5)]) (st' := [.int v4, .int v2, .ref 145]) 4 rfl ?_
    refine pu_iast rfl rfl g3 (shp_pM (c := 33) rfl) ?_
    obtain ⟨g4, h⟩ := gd_in h
    refine pmSeg_U (pc' := 282) (ls' := [some (.ref 112), some (.int v1), some (.int v2), some (.int v3), some (.int v4), some (.int v5)]) (st' := [.int v5, .int v2, .ref 143]) 4 rfl ?_
    refine pu_iast rfl rfl g4 (shp_pM (c := 31) rfl) ?_
    refine pmSeg_U (pc' := 283) (ls' := [some (.ref 112), some (.int v1), some (.int v2), some (.int v3), some (.int v4), some (.int v5)]) (st' := []) 0 rfl ?_
    refine pmU_le (a := [some (.ref 112), some (.int v1), some (.int v2), none, none, none]) (le_s (le_s (le_s (le_v rfl (le_v rfl (le_v rfl le_nil)))))) ?_
    exact L_Mo_goOn_b283 d h
  · refine pmSeg_U (pc' := 233) (ls' := [some (.ref 112), some (.int v1), some (.int v2), some (.int v3), some (.int v4), some (.int v5)]) (st' := [.int 2, .int v3]) 2 rfl ?_
    refine pu_icmpP (tg := 242) h rfl rfl rfl (fun h => ?_) (fun h => ?_)
    · refine pmSeg_U (pc' := 242) (ls' := [some (.ref 112), some (.int v1), some (.int v2), some (.int v3), some (.int v4), some (.int v5)]) (st' := []) 0 rfl ?_
      refine pmU_le (a := [some (.ref 112), some (.int v1), some (.int v2), none, some (.int v4), none]) (le_s (le_s (le_s (le_v rfl (le_s (le_v rfl le_nil)))))) ?_
      exact L_Mo_goOn_b242 d h
    · refine pmSeg_U (pc' := 239) (ls' := [some (.ref 112), some (.int v1), some (.int v2), some (.int v3), some (.int v4), some (.int v5)]) (st' := [.int v5, .ref 112]) 2 rfl ?_
      obtain ⟨q239, hq239, h⟩ := bd_in h
      refine pmU_C (av := [.ref 112, .int v5]) (rest := []) rfl rfl rfl rfl rfl (L_Mo_wrongType (d + 5) hq239) ?_
      refine pmSeg_U (pc' := 242) (ls' := [some (.ref 112), some (.int v1), some (.int v2), some (.int v3), some (.int v4), some (.int v5)]) (st' := []) 0 rfl ?_
      refine pmU_le (a := [some (.ref 112), some (.int v1), some (.int v2), none, some (.int v4), none]) (le_s (le_s (le_s (le_v rfl (le_s (le_v rfl le_nil)))))) ?_
      exact L_Mo_goOn_b242 d h
theorem L_Mo_goOn_b189 {S : pmS} (d : Nat)    {v1 : Int32} {v2 : Int32} {v3 : Int32} {v5 : Int32} {σ τ : Mem} {z : Mem}  (h : Mo_goOn_b189 v1 v2 v3 v5 σ = some z) : pmU S (d + 6) 125 189 [some (.ref 112), some (.int v1), some (.int v2), some (.int v3), none, some (.int v5)] [] (shH τ σ) none (shH τ z) := by
  unfold Mo_goOn_b189 at h
  obtain ⟨g1, h⟩ := gd_in h
  refine pmSeg_U (pc' := 195) (ls' := [some (.ref 112), some (.int v1), some (.int v2), some (.int v3), none, some (.int v5)]) (st' := [.int v1, .int v2, .ref 139]) 4 rfl ?_
  refine pu_iast rfl rfl g1 (shp_pM (c := 27) rfl) ?_
  obtain ⟨g2, h⟩ := gd_in h
  refine pmSeg_U (pc' := 202) (ls' := [some (.ref 112), some (.int v1), some (.int v2), some (.int v3), none, some (.int v5)]) (st' := [.int v3, .int v2, .ref 141]) 4 rfl ?_
  refine pu_iast rfl rfl g2 (shp_pM (c := 29) rfl) ?_
  obtain ⟨g3, h⟩ := gd_in h
  refine pmSeg_U (pc' := 210) (ls' := [some (.ref 112), some (.int v1), some (.int v2), some (.int v3), none, some (.int v5)]) (st' := [.int v5, .int v2, .ref 140]) 4 rfl ?_
  refine pu_iast rfl rfl g3 (shp_pM (c := 28) rfl) ?_
  refine pmSeg_U (pc' := 218) (ls' := [some (.ref 112), some (.int v1), some (.int v2), some (.int v3), none, some (.int v5)]) (st' := [.int (((mput (mput (mput σ 27 v2.toNatClampNeg v1) 29 v2.toNatClampNeg v3) 28 v2.toNatClampNeg v5) 0 14) + 1), .ref 112]) 5 rfl ?_
  refine pu_put rfl rfl rfl rfl rfl (shp_pM (c := 0) rfl) ?_
  refine pmSeg_U (pc' := 221) (ls' := [some (.ref 112), some (.int v1), some (.int v2), some (.int v3), none, some (.int v5)]) (st' := []) 0 rfl ?_
  cases h
  exact pmU_T rfl rfl rfl rfl rfl rfl
theorem L_Mo_goOn_b131 {S : pmS} (d : Nat)    {v1 : Int32} {v2 : Int32} {σ τ : Mem} {z : Mem}  (h : Mo_goOn_b131 v1 v2 σ = some z) : pmU S (d + 6) 125 131 [some (.ref 112), some (.int v1), some (.int v2), none, none, none] [] (shH τ σ) none (shH τ z) := by
  unfold Mo_goOn_b131 at h
  obtain ⟨g1, h⟩ := gd_in h
  refine pmSeg_U (pc' := 137) (ls' := [some (.ref 112), some (.int v1), some (.int v2), none, none, none]) (st' := [.int v2, .ref 139, .ref 112]) 4 rfl ?_
  refine pu_iald rfl rfl g1 (shp_iM (c := 27) rfl) ?_
  refine pmSeg_U (pc' := 139) (ls' := [some (.ref 112), some (.int v1), some (.int v2), none, none, none]) (st' := [.int 0, .int (σ 27 v2.toNatClampNeg), .ref 112]) 1 rfl ?_
  obtain ⟨q139, hq139, h⟩ := bd_in h
  refine pmU_C (av := [.ref 112, .int (σ 27 v2.toNatClampNeg), .int 0]) (rest := []) rfl rfl rfl rfl rfl (L_Mo_emit (d + 5) hq139) ?_
  obtain ⟨g2, h⟩ := gd_in h
  refine pmSeg_U (pc' := 148) (ls' := [some (.ref 112), some (.int v1), some (.int v2), none, none, none]) (st' := [.int 0, .int v2, .ref 139]) 4 rfl ?_
  refine pu_iast rfl rfl g2 (shp_pM (c := 27) rfl) ?_
  obtain ⟨g3, h⟩ := gd_in h
  refine pmSeg_U (pc' := 159) (ls' := [some (.ref 112), some (.int v1), some (.int v2), some (.int 2), some (.int 0), none]) (st' := [.int v2, .ref 140]) 7 rfl ?_
  refine pu_iald rfl rfl g3 (shp_iM (c := 28) rfl) ?_
  refine pmSeg_U (pc' := 222) (ls' := [some (.ref 112), some (.int v1), some (.int v2), some (.int 2), some (.int 0), some (.int ((mput q139 27 v2.toNatClampNeg 0) 28 v2.toNatClampNeg))]) (st' := []) 2 rfl ?_
  exact L_Mo_goOn_b222 d h
theorem L_Mo_goOn_b122 {S : pmS} (d : Nat)    {v1 : Int32} {v2 : Int32} {v5 : Int32} {s0 : Int32} {s1 : Int32} {σ τ : Mem} {z : Mem}  (h : Mo_goOn_b122 v1 v2 v5 s0 s1 σ = some z) : pmU S (d + 6) 125 122 [some (.ref 112), some (.int v1), some (.int v2), none, none, some (.int v5)] [.int s1, .int s0] (shH τ σ) none (shH τ z) := by
  unfold Mo_goOn_b122 at h
  refine pmSeg_U (pc' := 122) (ls' := [some (.ref 112), some (.int v1), some (.int v2), none, none, some (.int v5)]) (st' := [.int s1, .int s0]) 0 rfl ?_
  refine pu_icmpP (tg := 131) h rfl rfl rfl (fun h => ?_) (fun h => ?_)
  · refine pmSeg_U (pc' := 131) (ls' := [some (.ref 112), some (.int v1), some (.int v2), none, none, some (.int v5)]) (st' := []) 0 rfl ?_
    refine pmU_le (a := [some (.ref 112), some (.int v1), some (.int v2), none, none, none]) (le_s (le_s (le_s (le_s (le_s (le_v rfl le_nil)))))) ?_
    exact L_Mo_goOn_b131 d h
  · refine pmSeg_U (pc' := 128) (ls' := [some (.ref 112), some (.int v1), some (.int v2), none, none, some (.int v5)]) (st' := [.int v5, .ref 112]) 2 rfl ?_
    obtain ⟨q128, hq128, h⟩ := bd_in h
    refine pmU_C (av := [.ref 112, .int v5]) (rest := []) rfl rfl rfl rfl rfl (L_Mo_wrongType (d + 5) hq128) ?_
    refine pmSeg_U (pc' := 131) (ls' := [some (.ref 112), some (.int v1), some (.int v2), none, none, some (.int v5)]) (st' := []) 0 rfl ?_
    refine pmU_le (a := [some (.ref 112), some (.int v1), some (.int v2), none, none, none]) (le_s (le_s (le_s (le_s (le_s (le_v rfl le_nil)))))) ?_
    exact L_Mo_goOn_b131 d h
theorem L_Mo_goOn {S : pmS} (d : Nat)  {σ τ : Mem} {z : Mem}  (h : Mo_goOn σ = some z) : pmX S (d + 7) 125 [.ref 112] (shH τ σ) none (shH τ z) := by
  unfold Mo_goOn at h
  refine pmU_X rfl ?_
  refine pmSeg_U (pc' := 1) (ls' := [some (.ref 112), none, none, none, none, none]) (st' := [.ref 112]) 1 rfl ?_
  obtain ⟨q1, hq1, h⟩ := bd_in h
  refine pmU_C (av := [.ref 112]) (rest := []) rfl rfl rfl rfl rfl (L_Mo_here (d + 4) hq1) ?_
  refine pmSeg_U (pc' := 9) (ls' := [some (.ref 112), some (.int q1.1), none, none, none, none]) (st' := [.int (q1.2 0 15)]) 3 rfl ?_
  refine pu_ifP (tg := 13) h rfl rfl rfl (fun h => ?_) (fun h => ?_)
  · refine pmSeg_U (pc' := 21) (ls' := [some (.ref 112), some (.int q1.1), some (.int (q1.2 0 17)), none, none, none]) (st' := [.int 43, .int q1.1]) 5 rfl ?_
    refine pu_icmpP (tg := 30) h rfl rfl rfl (fun h => ?_) (fun h => ?_)
    · refine pmSeg_U (pc' := 30) (ls' := [some (.ref 112), some (.int q1.1), some (.int (q1.2 0 17)), none, none, none]) (st' := []) 0 rfl ?_
      exact L_Mo_goOn_b30 d h
    · refine pmSeg_U (pc' := 27) (ls' := [some (.ref 112), some (.int q1.1), some (.int (q1.2 0 17)), none, none, none]) (st' := [.int 45, .int q1.1]) 2 rfl ?_
      refine pu_icmpP (tg := 68) h rfl rfl rfl (fun h => ?_) (fun h => ?_)
      · obtain ⟨g1, h⟩ := gd_in h
        refine pmSeg_U (pc' := 73) (ls' := [some (.ref 112), some (.int q1.1), some (.int (q1.2 0 17)), none, none, none]) (st' := [.int (q1.2 0 17), .ref 137]) 3 rfl ?_
        refine pu_iald rfl rfl g1 (shp_iM (c := 25) rfl) ?_
        obtain ⟨g2, h⟩ := gd_in h
        refine pmSeg_U (pc' := 80) (ls' := [some (.ref 112), some (.int q1.1), some (.int (q1.2 0 17)), some (.int (q1.2 25 (q1.2 0 17).toNatClampNeg)), none, none]) (st' := [.int (q1.2 0 17), .ref 138]) 4 rfl ?_
        refine pu_iald rfl rfl g2 (shp_iM (c := 26) rfl) ?_
        obtain ⟨g3, h⟩ := gd_in h
        refine pmSeg_U (pc' := 88) (ls' := [some (.ref 112), some (.int q1.1), some (.int (q1.2 0 17)), some (.int (q1.2 25 (q1.2 0 17).toNatClampNeg)), some (.int (q1.2 26 (q1.2 0 17).toNatClampNeg)), none]) (st' := [.int (q1.2 0 17), .ref 136]) 4 rfl ?_
        refine pu_iald rfl rfl g3 (shp_iM (c := 24) rfl) ?_
        obtain ⟨g4, h⟩ := gd_in h
        refine pmSeg_U (pc' := 96) (ls' := [some (.ref 112), some (.int q1.1), some (.int (q1.2 0 17)), some (.int (q1.2 25 (q1.2 0 17).toNatClampNeg)), some (.int (q1.2 26 (q1.2 0 17).toNatClampNeg)), some (.int (q1.2 24 (q1.2 0 17).toNatClampNeg))]) (st' := [.int (q1.2 0 17), .ref 139]) 4 rfl ?_
        refine pu_iald rfl rfl g4 (shp_iM (c := 27) rfl) ?_
        refine pmSeg_U (pc' := 97) (ls' := [some (.ref 112), some (.int q1.1), some (.int (q1.2 0 17)), some (.int (q1.2 25 (q1.2 0 17).toNatClampNeg)), some (.int (q1.2 26 (q1.2 0 17).toNatClampNeg)), some (.int (q1.2 24 (q1.2 0 17).toNatClampNeg))]) (st' := [.int (q1.2 27 (q1.2 0 17).toNatClampNeg)]) 0 rfl ?_
        refine pu_ifP (tg := 165) h rfl rfl rfl (fun h => ?_) (fun h => ?_)
        · refine pmSeg_U (pc' := 166) (ls' := [some (.ref 112), some (.int q1.1), some (.int (q1.2 0 17)), some (.int (q1.2 25 (q1.2 0 17).toNatClampNeg)), some (.int (q1.2 26 (q1.2 0 17).toNatClampNeg)), some (.int (q1.2 24 (q1.2 0 17).toNatClampNeg))]) (st' := [.int q1.1]) 1 rfl ?_
          refine pmU_C (av := [.int q1.1]) (rest := []) rfl rfl rfl rfl rfl (L_Mo_isComparing (d + 5)) ?_
          refine pmSeg_U (pc' := 169) (ls' := [some (.ref 112), some (.int q1.1), some (.int (q1.2 0 17)), some (.int (q1.2 25 (q1.2 0 17).toNatClampNeg)), some (.int (q1.2 26 (q1.2 0 17).toNatClampNeg)), some (.int (q1.2 24 (q1.2 0 17).toNatClampNeg))]) (st' := [.int (Mo_isComparing q1.1)]) 0 rfl ?_
          refine pu_ifP (tg := 222) h rfl rfl rfl (fun h => ?_) (fun h => ?_)
          · refine pmSeg_U (pc' := 222) (ls' := [some (.ref 112), some (.int q1.1), some (.int (q1.2 0 17)), some (.int (q1.2 25 (q1.2 0 17).toNatClampNeg)), some (.int (q1.2 26 (q1.2 0 17).toNatClampNeg)), some (.int (q1.2 24 (q1.2 0 17).toNatClampNeg))]) (st' := []) 0 rfl ?_
            exact L_Mo_goOn_b222 d h
          · refine pmSeg_U (pc' := 175) (ls' := [some (.ref 112), some (.int q1.1), some (.int (q1.2 0 17)), some (.int (q1.2 25 (q1.2 0 17).toNatClampNeg)), some (.int (q1.2 26 (q1.2 0 17).toNatClampNeg)), some (.int (q1.2 24 (q1.2 0 17).toNatClampNeg))]) (st' := [.int 60, .int q1.1]) 2 rfl ?_
            refine pu_icmpP (tg := 189) h rfl rfl rfl (fun h => ?_) (fun h => ?_)
            · refine pmSeg_U (pc' := 189) (ls' := [some (.ref 112), some (.int q1.1), some (.int (q1.2 0 17)), some (.int (q1.2 25 (q1.2 0 17).toNatClampNeg)), some (.int (q1.2 26 (q1.2 0 17).toNatClampNeg)), some (.int (q1.2 24 (q1.2 0 17).toNatClampNeg))]) (st' := []) 0 rfl ?_
              refine pmU_le (a := [some (.ref 112), some (.int q1.1), some (.int (q1.2 0 17)), some (.int (q1.2 25 (q1.2 0 17).toNatClampNeg)), none, some (.int (q1.2 24 (q1.2 0 17).toNatClampNeg))]) (le_s (le_s (le_s (le_s (le_v rfl (le_s le_nil)))))) ?_
              exact L_Mo_goOn_b189 d h
            · refine pmSeg_U (pc' := 180) (ls' := [some (.ref 112), some (.int q1.1), some (.int (q1.2 0 17)), some (.int (q1.2 25 (q1.2 0 17).toNatClampNeg)), some (.int (q1.2 26 (q1.2 0 17).toNatClampNeg)), some (.int (q1.2 24 (q1.2 0 17).toNatClampNeg))]) (st' := [.int 1, .int (q1.2 25 (q1.2 0 17).toNatClampNeg)]) 2 rfl ?_
              refine pu_icmpP (tg := 189) h rfl rfl rfl (fun h => ?_) (fun h => ?_)
              · refine pmSeg_U (pc' := 189) (ls' := [some (.ref 112), some (.int q1.1), some (.int (q1.2 0 17)), some (.int (q1.2 25 (q1.2 0 17).toNatClampNeg)), some (.int (q1.2 26 (q1.2 0 17).toNatClampNeg)), some (.int (q1.2 24 (q1.2 0 17).toNatClampNeg))]) (st' := []) 0 rfl ?_
                refine pmU_le (a := [some (.ref 112), some (.int q1.1), some (.int (q1.2 0 17)), some (.int (q1.2 25 (q1.2 0 17).toNatClampNeg)), none, some (.int (q1.2 24 (q1.2 0 17).toNatClampNeg))]) (le_s (le_s (le_s (le_s (le_v rfl (le_s le_nil)))))) ?_
                exact L_Mo_goOn_b189 d h
              · refine pmSeg_U (pc' := 186) (ls' := [some (.ref 112), some (.int q1.1), some (.int (q1.2 0 17)), some (.int (q1.2 25 (q1.2 0 17).toNatClampNeg)), some (.int (q1.2 26 (q1.2 0 17).toNatClampNeg)), some (.int (q1.2 24 (q1.2 0 17).toNatClampNeg))]) (st' := [.int (q1.2 24 (q1.2 0 17).toNatClampNeg), .ref 112]) 2 rfl ?_
                obtain ⟨q186, hq186, h⟩ := bd_in h
                refine pmU_C (av := [.ref 112, .int (q1.2 24 (q1.2 0 17).toNatClampNeg)]) (rest := []) rfl rfl rfl rfl rfl (L_Mo_wrongType (d + 5) hq186) ?_
                refine pmSeg_U (pc' := 189) (ls' := [some (.ref 112), some (.int q1.1), some (.int (q1.2 0 17)), some (.int (q1.2 25 (q1.2 0 17).toNatClampNeg)), some (.int (q1.2 26 (q1.2 0 17).toNatClampNeg)), some (.int (q1.2 24 (q1.2 0 17).toNatClampNeg))]) (st' := []) 0 rfl ?_
                refine pmU_le (a := [some (.ref 112), some (.int q1.1), some (.int (q1.2 0 17)), some (.int (q1.2 25 (q1.2 0 17).toNatClampNeg)), none, some (.int (q1.2 24 (q1.2 0 17).toNatClampNeg))]) (le_s (le_s (le_s (le_s (le_v rfl (le_s le_nil)))))) ?_
                exact L_Mo_goOn_b189 d h
        · obtain ⟨g5, h⟩ := gd_in h
          refine pmSeg_U (pc' := 106) (ls' := [some (.ref 112), some (.int q1.1), some (.int (q1.2 0 17)), some (.int (q1.2 25 (q1.2 0 17).toNatClampNeg)), some (.int (q1.2 26 (q1.2 0 17).toNatClampNeg)), some (.int (q1.2 24 (q1.2 0 17).toNatClampNeg))]) (st' := [.int (q1.2 0 17), .ref 139, .int (q1.2 25 (q1.2 0 17).toNatClampNeg)]) 4 rfl ?_
          refine pu_iald rfl rfl g5 (shp_iM (c := 27) rfl) ?_
          refine pmSeg_U (pc' := 109) (ls' := [some (.ref 112), some (.int q1.1), some (.int (q1.2 0 17)), some (.int (q1.2 25 (q1.2 0 17).toNatClampNeg)), some (.int (q1.2 26 (q1.2 0 17).toNatClampNeg)), some (.int (q1.2 24 (q1.2 0 17).toNatClampNeg))]) (st' := [.int 60, .int (q1.2 27 (q1.2 0 17).toNatClampNeg), .int (q1.2 25 (q1.2 0 17).toNatClampNeg)]) 1 rfl ?_
          refine pu_icmpP (tg := 116) h rfl rfl rfl (fun h => ?_) (fun h => ?_)
          · obtain ⟨g6, h⟩ := gd_in h
            refine pmSeg_U (pc' := 121) (ls' := [some (.ref 112), some (.int q1.1), some (.int (q1.2 0 17)), some (.int (q1.2 25 (q1.2 0 17).toNatClampNeg)), some (.int (q1.2 26 (q1.2 0 17).toNatClampNeg)), some (.int (q1.2 24 (q1.2 0 17).toNatClampNeg))]) (st' := [.int (q1.2 0 17), .ref 141, .int (q1.2 25 (q1.2 0 17).toNatClampNeg)]) 3 rfl ?_
            refine pu_iald rfl rfl g6 (shp_iM (c := 29) rfl) ?_
            refine pmSeg_U (pc' := 122) (ls' := [some (.ref 112), some (.int q1.1), some (.int (q1.2 0 17)), some (.int (q1.2 25 (q1.2 0 17).toNatClampNeg)), some (.int (q1.2 26 (q1.2 0 17).toNatClampNeg)), some (.int (q1.2 24 (q1.2 0 17).toNatClampNeg))]) (st' := [.int (q1.2 29 (q1.2 0 17).toNatClampNeg), .int (q1.2 25 (q1.2 0 17).toNatClampNeg)]) 0 rfl ?_
            refine pmU_le (a := [some (.ref 112), some (.int q1.1), some (.int (q1.2 0 17)), none, none, some (.int (q1.2 24 (q1.2 0 17).toNatClampNeg))]) (le_s (le_s (le_s (le_v rfl (le_v rfl (le_s le_nil)))))) ?_
            exact L_Mo_goOn_b122 d h
          · refine pmSeg_U (pc' := 122) (ls' := [some (.ref 112), some (.int q1.1), some (.int (q1.2 0 17)), some (.int (q1.2 25 (q1.2 0 17).toNatClampNeg)), some (.int (q1.2 26 (q1.2 0 17).toNatClampNeg)), some (.int (q1.2 24 (q1.2 0 17).toNatClampNeg))]) (st' := [.int 1, .int (q1.2 25 (q1.2 0 17).toNatClampNeg)]) 2 rfl ?_
            refine pmU_le (a := [some (.ref 112), some (.int q1.1), some (.int (q1.2 0 17)), none, none, some (.int (q1.2 24 (q1.2 0 17).toNatClampNeg))]) (le_s (le_s (le_s (le_v rfl (le_v rfl (le_s le_nil)))))) ?_
            exact L_Mo_goOn_b122 d h
      · refine pmSeg_U (pc' := 30) (ls' := [some (.ref 112), some (.int q1.1), some (.int (q1.2 0 17)), none, none, none]) (st' := []) 0 rfl ?_
        exact L_Mo_goOn_b30 d h
  · refine pmSeg_U (pc' := 12) (ls' := [some (.ref 112), some (.int q1.1), none, none, none, none]) (st' := []) 0 rfl ?_
    cases h
    exact pmU_T rfl rfl rfl rfl rfl rfl
theorem L_Mo_readConditions_b248 {S : pmS} (d : Nat)     {σ τ : Mem} {z : Mem}  (h : Mo_readConditions_b248 σ = some z) : pmU S (d + 7) 115 248 [some (.ref 112), none, none, none, none] [] (shH τ σ) none (shH τ z) := by
  unfold Mo_readConditions_b248 at h
  refine pmSeg_U (pc' := 255) (ls' := [some (.ref 112), none, none, none, none]) (st' := [.int ((σ 0 14) + 1), .ref 112]) 5 rfl ?_
  refine pu_put rfl rfl rfl rfl rfl (shp_pM (c := 0) rfl) ?_
  refine pmSeg_U (pc' := 262) (ls' := [some (.ref 112), none, none, none, none]) (st' := [.int ((mput σ 0 14 ((σ 0 14) + 1)) 0 15)]) 2 rfl ?_
  refine pu_ifP (tg := 284) h rfl rfl rfl (fun h => ?_) (fun h => ?_)
  · refine pmSeg_U (pc' := 284) (ls' := [some (.ref 112), none, none, none, none]) (st' := []) 0 rfl ?_
    cases h
    exact pmU_T rfl rfl rfl rfl rfl rfl
  · refine pmSeg_U (pc' := 273) (ls' := [some (.ref 112), none, none, none, none]) (st' := [.int ((mput σ 0 14 ((σ 0 14) + 1)) 0 4), .int ((mput σ 0 14 ((σ 0 14) + 1)) 0 14)]) 4 rfl ?_
    refine pu_icmpP (tg := 284) h rfl rfl rfl (fun h => ?_) (fun h => ?_)
    · refine pmSeg_U (pc' := 284) (ls' := [some (.ref 112), none, none, none, none]) (st' := []) 0 rfl ?_
      cases h
      exact pmU_T rfl rfl rfl rfl rfl rfl
    · refine pmSeg_U (pc' := 281) (ls' := [some (.ref 112), none, none, none, none]) (st' := [.int ((mput σ 0 14 ((σ 0 14) + 1)) 0 14), .ref 112]) 3 rfl ?_
      obtain ⟨q281, hq281, h⟩ := bd_in h
      refine pmU_C (av := [.ref 112, .int ((mput σ 0 14 ((σ 0 14) + 1)) 0 14)]) (rest := []) rfl rfl rfl rfl rfl (L_Mo_blame (d + 6) hq281) ?_
      refine pmSeg_U (pc' := 284) (ls' := [some (.ref 112), none, none, none, none]) (st' := []) 0 rfl ?_
      cases h
      exact pmU_T rfl rfl rfl rfl rfl rfl
theorem L_Mo_readConditions_b227 {S : pmS} (d : Nat)    {v1 : Int32} {σ τ : Mem} {z : Mem}  (h : Mo_readConditions_b227 v1 σ = some z) : pmU S (d + 7) 115 227 [some (.ref 112), some (.int v1), none, none, none] [] (shH τ σ) none (shH τ z) := by
  unfold Mo_readConditions_b227 at h
  refine pmSeg_U (pc' := 231) (ls' := [some (.ref 112), some (.int v1), none, none, none]) (st' := [.int (σ 0 15)]) 2 rfl ?_
  refine pu_ifP (tg := 248) h rfl rfl rfl (fun h => ?_) (fun h => ?_)
  · refine pmSeg_U (pc' := 248) (ls' := [some (.ref 112), some (.int v1), none, none, none]) (st' := []) 0 rfl ?_
    refine pmU_le (a := [some (.ref 112), none, none, none, none]) (le_s (le_v rfl (le_s (le_s (le_s le_nil))))) ?_
    exact L_Mo_readConditions_b248 d h
  · refine pmSeg_U (pc' := 237) (ls' := [some (.ref 112), some (.int v1), none, none, none]) (st' := [.int 59, .int v1]) 2 rfl ?_
    refine pu_icmpP (tg := 248) h rfl rfl rfl (fun h => ?_) (fun h => ?_)
    · refine pmSeg_U (pc' := 248) (ls' := [some (.ref 112), some (.int v1), none, none, none]) (st' := []) 0 rfl ?_
      refine pmU_le (a := [some (.ref 112), none, none, none, none]) (le_s (le_v rfl (le_s (le_s (le_s le_nil))))) ?_
      exact L_Mo_readConditions_b248 d h
    · refine pmSeg_U (pc' := 245) (ls' := [some (.ref 112), some (.int v1), none, none, none]) (st' := [.int (σ 0 14), .ref 112]) 3 rfl ?_
      obtain ⟨q245, hq245, h⟩ := bd_in h
      refine pmU_C (av := [.ref 112, .int (σ 0 14)]) (rest := []) rfl rfl rfl rfl rfl (L_Mo_blame (d + 6) hq245) ?_
      refine pmSeg_U (pc' := 248) (ls' := [some (.ref 112), some (.int v1), none, none, none]) (st' := []) 0 rfl ?_
      refine pmU_le (a := [some (.ref 112), none, none, none, none]) (le_s (le_v rfl (le_s (le_s (le_s le_nil))))) ?_
      exact L_Mo_readConditions_b248 d h
theorem L_Mo_readConditions_b208 {S : pmS} (d : Nat)   {k5 : Int32 → Mem → Option Mem} (Hk5 : ∀ {v1 : Int32} {σ τ : Mem} {z : Mem}, k5 v1 σ = some z → pmU S (d + 7) 115 5 [some (.ref 112), some (.int v1), none, none, none] [] (shH τ σ) none (shH τ z))  {σ τ : Mem} {z : Mem}  (h : Mo_readConditions_b208 k5 σ = some z) : pmU S (d + 7) 115 208 [some (.ref 112), none, none, none, none] [] (shH τ σ) none (shH τ z) := by
  unfold Mo_readConditions_b208 at h
  refine pmSeg_U (pc' := 212) (ls' := [some (.ref 112), none, none, none, none]) (st' := [.int (σ 0 15)]) 2 rfl ?_
  refine pu_ifP (tg := 222) h rfl rfl rfl (fun h => ?_) (fun h => ?_)
  · refine pmSeg_U (pc' := 5) (ls' := [some (.ref 112), some (.int (-1)), none, none, none]) (st' := []) 3 rfl ?_
    exact Hk5 h
  · refine pmSeg_U (pc' := 216) (ls' := [some (.ref 112), none, none, none, none]) (st' := [.ref 112]) 1 rfl ?_
    obtain ⟨q216, hq216, h⟩ := bd_in h
    refine pmU_C (av := [.ref 112]) (rest := []) rfl rfl rfl rfl rfl (L_Mo_here (d + 5) hq216) ?_
    refine pmSeg_U (pc' := 5) (ls' := [some (.ref 112), some (.int q216.1), none, none, none]) (st' := []) 3 rfl ?_
    exact Hk5 h
