theorem L_Mo_endTerm_b9 {S : pmS} (d : Nat)    : ∀ (n0 : Nat) {v4 : Int32} {v5 : Int32} {v6 : Int32} {σ τ : Mem} {z : Mem}, Mo_endTerm_b9 n0 v4 v5 v6 σ = some z → pmU S (d + 1) 123 9 [some (.ref 112), none, none, none, some (.int v4), some (.int v5), some (.int v6)] [] (shH τ σ) none (shH τ z) := by
  intro n0
  induction n0 with
  | zero =>
    intro v4 v5 v6 σ τ z  h
    unfold Mo_endTerm_b9 at h
    cases h
  | succ n1 ih =>
    intro v4 v5 v6 σ τ z  h
    unfold Mo_endTerm_b9 at h
    obtain ⟨g1, h⟩ := gd_in h
    refine pmSeg_U (pc' := 17) (ls' := [some (.ref 112), none, none, none, some (.int v4), some (.int v5), some (.int v6)]) (st' := [.int (σ 0 17), .ref 126]) 4 rfl ?_
    refine pu_iald rfl rfl g1 (shp_iM (c := 14) rfl) ?_
    refine pmSeg_U (pc' := 19) (ls' := [some (.ref 112), none, none, none, some (.int v4), some (.int v5), some (.int v6)]) (st' := [.int 4, .int (σ 14 (σ 0 17).toNatClampNeg)]) 1 rfl ?_
    refine pu_icmpP (tg := 71) h rfl rfl rfl (fun h => ?_) (fun h => ?_)
    · obtain ⟨g2, h⟩ := gd_in h
      refine pmSeg_U (pc' := 79) (ls' := [some (.ref 112), none, none, none, some (.int v4), some (.int v5), some (.int v6)]) (st' := [.int (σ 0 17), .ref 135]) 4 rfl ?_
      refine pu_iald rfl rfl g2 (shp_iM (c := 23) rfl) ?_
      refine pmSeg_U (pc' := 80) (ls' := [some (.ref 112), none, none, none, some (.int v4), some (.int v5), some (.int v6)]) (st' := [.int (σ 23 (σ 0 17).toNatClampNeg)]) 0 rfl ?_
      refine pu_ifP (tg := 117) h rfl rfl rfl (fun h => ?_) (fun h => ?_)
      · refine pmSeg_U (pc' := 120) (ls' := [some (.ref 112), none, none, none, some (.int v4), some (.int v5), some (.int v6)]) (st' := [.int 1, .int v4]) 2 rfl ?_
        refine pu_icmpP (tg := 129) h rfl rfl rfl (fun h => ?_) (fun h => ?_)
        · refine pmSeg_U (pc' := 129) (ls' := [some (.ref 112), none, none, none, some (.int v4), some (.int v5), some (.int v6)]) (st' := []) 0 rfl ?_
          refine pmU_le (a := [some (.ref 112), none, none, none, none, none, none]) (le_s (le_s (le_s (le_s (le_v rfl (le_v rfl (le_v rfl le_nil))))))) ?_
          exact L_Mo_endTerm_b129 d h
        · refine pmSeg_U (pc' := 126) (ls' := [some (.ref 112), none, none, none, some (.int v4), some (.int v5), some (.int v6)]) (st' := [.int v6, .ref 112]) 2 rfl ?_
          obtain ⟨q126, hq126, h⟩ := bd_in h
          refine pmU_C (av := [.ref 112, .int v6]) (rest := []) rfl rfl rfl rfl rfl (L_Mo_wrongType (d + 0) hq126) ?_
          refine pmSeg_U (pc' := 129) (ls' := [some (.ref 112), none, none, none, some (.int v4), some (.int v5), some (.int v6)]) (st' := []) 0 rfl ?_
          refine pmU_le (a := [some (.ref 112), none, none, none, none, none, none]) (le_s (le_s (le_s (le_s (le_v rfl (le_v rfl (le_v rfl le_nil))))))) ?_
          exact L_Mo_endTerm_b129 d h
      · obtain ⟨g3, h⟩ := gd_in h
        refine pmSeg_U (pc' := 93) (ls' := [some (.ref 112), none, none, none, some (.int v4), some (.int v5), some (.int v6)]) (st' := [.int v4, .int (σ 0 17), .ref 137]) 5 rfl ?_
        refine pu_iast rfl rfl g3 (shp_pM (c := 25) rfl) ?_
        obtain ⟨g4, h⟩ := gd_in h
        refine pmSeg_U (pc' := 104) (ls' := [some (.ref 112), none, none, none, some (.int v4), some (.int v5), some (.int v6)]) (st' := [.int v5, .int ((mput σ 25 (σ 0 17).toNatClampNeg v4) 0 17), .ref 138]) 5 rfl ?_
        refine pu_iast rfl rfl g4 (shp_pM (c := 26) rfl) ?_
        obtain ⟨g5, h⟩ := gd_in h
        refine pmSeg_U (pc' := 115) (ls' := [some (.ref 112), none, none, none, some (.int v4), some (.int v5), some (.int v6)]) (st' := [.int v6, .int ((mput (mput σ 25 (σ 0 17).toNatClampNeg v4) 26 ((mput σ 25 (σ 0 17).toNatClampNeg v4) 0 17).toNatClampNeg v5) 0 17), .ref 136]) 5 rfl ?_
        refine pu_iast rfl rfl g5 (shp_pM (c := 24) rfl) ?_
        refine pmSeg_U (pc' := 116) (ls' := [some (.ref 112), none, none, none, some (.int v4), some (.int v5), some (.int v6)]) (st' := []) 0 rfl ?_
        cases h
        exact pmU_T rfl rfl rfl rfl rfl rfl
    · refine pmSeg_U (pc' := 25) (ls' := [some (.ref 112), none, none, none, some (.int v4), some (.int v5), some (.int v6)]) (st' := [.int 2, .int v4]) 2 rfl ?_
      refine pu_icmpP (tg := 34) h rfl rfl rfl (fun h => ?_) (fun h => ?_)
      · refine pmSeg_U (pc' := 34) (ls' := [some (.ref 112), none, none, none, some (.int v4), some (.int v5), some (.int v6)]) (st' := []) 0 rfl ?_
        refine pmU_le (a := [some (.ref 112), none, none, none, none, none, none]) (le_s (le_s (le_s (le_s (le_v rfl (le_v rfl (le_v rfl le_nil))))))) ?_
        exact L_Mo_endTerm_b34 d ih h
      · refine pmSeg_U (pc' := 31) (ls' := [some (.ref 112), none, none, none, some (.int v4), some (.int v5), some (.int v6)]) (st' := [.int v6, .ref 112]) 2 rfl ?_
        obtain ⟨q31, hq31, h⟩ := bd_in h
        refine pmU_C (av := [.ref 112, .int v6]) (rest := []) rfl rfl rfl rfl rfl (L_Mo_wrongType (d + 0) hq31) ?_
        refine pmSeg_U (pc' := 34) (ls' := [some (.ref 112), none, none, none, some (.int v4), some (.int v5), some (.int v6)]) (st' := []) 0 rfl ?_
        refine pmU_le (a := [some (.ref 112), none, none, none, none, none, none]) (le_s (le_s (le_s (le_s (le_v rfl (le_v rfl (le_v rfl le_nil))))))) ?_
        exact L_Mo_endTerm_b34 d ih h
theorem L_Mo_endTerm {S : pmS} (d : Nat) {v1 : Int32} {v2 : Int32} {v3 : Int32} {σ τ : Mem} {z : Mem}  (h : Mo_endTerm v1 v2 v3 σ = some z) : pmX S (d + 2) 123 [.ref 112, .int v1, .int v2, .int v3] (shH τ σ) none (shH τ z) := by
  unfold Mo_endTerm at h
  refine pmU_X rfl ?_
  refine pmSeg_U (pc' := 9) (ls' := [some (.ref 112), some (.int v1), some (.int v2), some (.int v3), some (.int v1), some (.int v2), some (.int v3)]) (st' := []) 6 rfl ?_
  refine pmU_le (a := [some (.ref 112), none, none, none, some (.int v1), some (.int v2), some (.int v3)]) (le_s (le_v rfl (le_v rfl (le_v rfl (le_s (le_s (le_s le_nil))))))) ?_
  exact L_Mo_endTerm_b9 d FU h
theorem L_Mo_readTerm_b113 {S : pmS} (d : Nat)   {k2 : Int32 → Mem → Option Mem} (Hk2 : ∀ {v1 : Int32} {σ τ : Mem} {z : Mem}, k2 v1 σ = some z → pmU S (d + 3) 118 2 [some (.ref 112), some (.int v1), none, none, none, none, none] [] (shH τ σ) none (shH τ z)) {v1 : Int32} {v4 : Int32} {v5 : Int32} {s0 : Int32} {σ τ : Mem} {z : Mem}  (h : Mo_readTerm_b113 k2 v1 v4 v5 s0 σ = some z) : pmU S (d + 3) 118 113 [some (.ref 112), some (.int v1), none, none, some (.int v4), some (.int v5), none] [.int s0] (shH τ σ) none (shH τ z) := by
  unfold Mo_readTerm_b113 at h
  refine pmSeg_U (pc' := 122) (ls' := [some (.ref 112), some (.int v1), none, none, some (.int v4), some (.int v5), some (.int s0)]) (st' := [.int v4, .int s0, .int v5, .ref 112]) 5 rfl ?_
  obtain ⟨q122, hq122, h⟩ := bd_in h
  refine pmU_C (av := [.ref 112, .int v5, .int s0, .int v4]) (rest := []) rfl rfl rfl rfl rfl (L_Mo_endTerm (d + 1) hq122) ?_
  refine pmSeg_U (pc' := 2) (ls' := [some (.ref 112), some (.int v1), none, none, some (.int v4), some (.int v5), some (.int s0)]) (st' := []) 2 rfl ?_
  refine pmU_le (a := [some (.ref 112), some (.int v1), none, none, none, none, none]) (le_s (le_s (le_s (le_s (le_v rfl (le_v rfl (le_v rfl le_nil))))))) ?_
  exact Hk2 h
theorem L_Mo_readTerm_b49 {S : pmS} (d : Nat)   {k2 : Int32 → Mem → Option Mem} (Hk2 : ∀ {v1 : Int32} {σ τ : Mem} {z : Mem}, k2 v1 σ = some z → pmU S (d + 3) 118 2 [some (.ref 112), some (.int v1), none, none, none, none, none] [] (shH τ σ) none (shH τ z)) {v1 : Int32} {s0 : Int32} {σ τ : Mem} {z : Mem}  (h : Mo_readTerm_b49 k2 v1 s0 σ = some z) : pmU S (d + 3) 118 49 [some (.ref 112), some (.int v1), none, none, none, none, none] [.int s0] (shH τ σ) none (shH τ z) := by
  unfold Mo_readTerm_b49 at h
  refine pmSeg_U (pc' := 54) (ls' := [some (.ref 112), some (.int v1), none, some (.int s0), none, none, none]) (st' := [.int (σ 0 15)]) 3 rfl ?_
  refine pu_ifP (tg := 58) h rfl rfl rfl (fun h => ?_) (fun h => ?_)
  · refine pmSeg_U (pc' := 59) (ls' := [some (.ref 112), some (.int v1), none, some (.int s0), none, none, none]) (st' := [.int s0]) 1 rfl ?_
    refine pu_ifP (tg := 128) h rfl rfl rfl (fun h => ?_) (fun h => ?_)
    · refine pmSeg_U (pc' := 134) (ls' := [some (.ref 112), some (.int v1), none, some (.int s0), none, none, none]) (st' := [.int 6, .int (σ 0 17)]) 3 rfl ?_
      refine pu_icmpP (tg := 148) h rfl rfl rfl (fun h => ?_) (fun h => ?_)
      · refine pmSeg_U (pc' := 149) (ls' := [some (.ref 112), some (.int v1), none, some (.int s0), none, none, none]) (st' := [.ref 112]) 1 rfl ?_
        obtain ⟨q149, hq149, h⟩ := bd_in h
        refine pmU_C (av := [.ref 112]) (rest := []) rfl rfl rfl rfl rfl (L_Mo_knownHere (d + 1) hq149) ?_
        refine pmSeg_U (pc' := 156) (ls' := [some (.ref 112), some (.int v1), none, some (.int s0), some (.int q149), none, none]) (st' := [.int s0, .ref 112]) 3 rfl ?_
        obtain ⟨q156, hq156, h⟩ := bd_in h
        refine pmU_C (av := [.ref 112, .int s0]) (rest := []) rfl rfl rfl rfl rfl (L_Mo_opn (d + 2) hq156) ?_
        refine pmSeg_U (pc' := 166) (ls' := [some (.ref 112), some (.int v1), none, some (.int s0), some (.int q149), none, none]) (st' := [.int ((q156 0 14) + 1), .ref 112]) 5 rfl ?_
        refine pu_put rfl rfl rfl rfl rfl (shp_pM (c := 0) rfl) ?_
        refine pmSeg_U (pc' := 171) (ls' := [some (.ref 112), some (.int v1), none, some (.int s0), some (.int q149), none, none]) (st' := [.int 4, .int s0]) 2 rfl ?_
        refine pu_icmpP (tg := 191) h rfl rfl rfl (fun h => ?_) (fun h => ?_)
        · refine pmSeg_U (pc' := 2) (ls' := [some (.ref 112), some (.int v1), none, some (.int s0), some (.int q149), none, none]) (st' := []) 1 rfl ?_
          refine pmU_le (a := [some (.ref 112), some (.int v1), none, none, none, none, none]) (le_s (le_s (le_s (le_v rfl (le_v rfl (le_s (le_s le_nil))))))) ?_
          exact Hk2 h
        · obtain ⟨g1, h⟩ := gd_in h
          refine pmSeg_U (pc' := 184) (ls' := [some (.ref 112), some (.int v1), none, some (.int s0), some (.int q149), none, none]) (st' := [.int q149, .int ((mput q156 0 14 ((q156 0 14) + 1)) 0 17), .ref 132]) 5 rfl ?_
          refine pu_iast rfl rfl g1 (shp_pM (c := 20) rfl) ?_
          refine pmSeg_U (pc' := 188) (ls' := [some (.ref 112), some (.int v1), none, some (.int s0), some (.int q149), none, none]) (st' := [.int q149, .ref 112]) 2 rfl ?_
          obtain ⟨q188, hq188, h⟩ := bd_in h
          refine pmU_C (av := [.ref 112, .int q149]) (rest := []) rfl rfl rfl rfl rfl (L_Mo_beginRow (d + 2) hq188) ?_
          refine pmSeg_U (pc' := 2) (ls' := [some (.ref 112), some (.int v1), none, some (.int s0), some (.int q149), none, none]) (st' := []) 1 rfl ?_
          refine pmU_le (a := [some (.ref 112), some (.int v1), none, none, none, none, none]) (le_s (le_s (le_s (le_v rfl (le_v rfl (le_s (le_s le_nil))))))) ?_
          exact Hk2 h
      · refine pmSeg_U (pc' := 142) (ls' := [some (.ref 112), some (.int v1), none, some (.int s0), none, none, none]) (st' := [.int (σ 0 14), .ref 112]) 3 rfl ?_
        obtain ⟨q142, hq142, h⟩ := bd_in h
        refine pmU_C (av := [.ref 112, .int (σ 0 14)]) (rest := []) rfl rfl rfl rfl rfl (L_Mo_blame (d + 2) hq142) ?_
        refine pmSeg_U (pc' := 2) (ls' := [some (.ref 112), some (.int v1), none, some (.int s0), none, none, none]) (st' := []) 2 rfl ?_
        refine pmU_le (a := [some (.ref 112), some (.int v1), none, none, none, none, none]) (le_s (le_s (le_s (le_v rfl (le_s (le_s (le_s le_nil))))))) ?_
        exact Hk2 h
    · refine pmSeg_U (pc' := 69) (ls' := [some (.ref 112), some (.int v1), none, some (.int s0), some (.int (σ 0 14)), none, none]) (st' := [.ref 112]) 4 rfl ?_
      obtain ⟨q69, hq69, h⟩ := bd_in h
      refine pmU_C (av := [.ref 112]) (rest := []) rfl rfl rfl rfl rfl (L_Mo_readAtom (d + 0) hq69) ?_
      refine pmSeg_U (pc' := 80) (ls' := [some (.ref 112), some (.int 0), none, some (.int s0), some (.int (σ 0 14)), some (.int q69.1), none]) (st' := [.int (q69.2 0 15)]) 5 rfl ?_
      refine pu_ifP (tg := 125) h rfl rfl rfl (fun h => ?_) (fun h => ?_)
      · refine pmSeg_U (pc' := 2) (ls' := [some (.ref 112), some (.int 0), none, some (.int s0), some (.int (σ 0 14)), some (.int q69.1), none]) (st' := []) 2 rfl ?_
        refine pmU_le (a := [some (.ref 112), some (.int 0), none, none, none, none, none]) (le_s (le_s (le_s (le_v rfl (le_v rfl (le_v rfl (le_s le_nil))))))) ?_
        exact Hk2 h
      · obtain ⟨g2, h⟩ := gd_in h
        refine pmSeg_U (pc' := 89) (ls' := [some (.ref 112), some (.int 0), none, some (.int s0), some (.int (σ 0 14)), some (.int q69.1), none]) (st' := [.int (σ 0 14), .ref 117]) 3 rfl ?_
        refine pu_iald rfl rfl g2 (shp_iM (c := 5) rfl) ?_
        refine pmSeg_U (pc' := 92) (ls' := [some (.ref 112), some (.int 0), none, some (.int s0), some (.int (σ 0 14)), some (.int q69.1), none]) (st' := [.int 104, .int (q69.2 5 (σ 0 14).toNatClampNeg)]) 1 rfl ?_
        refine pu_icmpP (tg := 112) h rfl rfl rfl (fun h => ?_) (fun h => ?_)
        · refine pmSeg_U (pc' := 113) (ls' := [some (.ref 112), some (.int 0), none, some (.int s0), some (.int (σ 0 14)), some (.int q69.1), none]) (st' := [.int 0]) 1 rfl ?_
          refine pmU_le (a := [some (.ref 112), some (.int 0), none, none, some (.int (σ 0 14)), some (.int q69.1), none]) (le_s (le_s (le_s (le_v rfl (le_s (le_s (le_s le_nil))))))) ?_
          exact L_Mo_readTerm_b113 d Hk2 h
        · obtain ⟨g3, h⟩ := gd_in h
          refine pmSeg_U (pc' := 104) (ls' := [some (.ref 112), some (.int 0), none, some (.int s0), some (.int (σ 0 14)), some (.int q69.1), none]) (st' := [.int ((σ 0 14) + 1), .ref 117, .int 1]) 6 rfl ?_
          refine pu_iald rfl rfl g3 (shp_iM (c := 5) rfl) ?_
          refine pmSeg_U (pc' := 113) (ls' := [some (.ref 112), some (.int 0), none, some (.int s0), some (.int (σ 0 14)), some (.int q69.1), none]) (st' := [.int (1 <<< (((q69.2 5 ((σ 0 14) + 1).toNatClampNeg) - 48) &&& 31))]) 4 rfl ?_
          refine pmU_le (a := [some (.ref 112), some (.int 0), none, none, some (.int (σ 0 14)), some (.int q69.1), none]) (le_s (le_s (le_s (le_v rfl (le_s (le_s (le_s le_nil))))))) ?_
          exact L_Mo_readTerm_b113 d Hk2 h
  · refine pmSeg_U (pc' := 57) (ls' := [some (.ref 112), some (.int v1), none, some (.int s0), none, none, none]) (st' := []) 0 rfl ?_
    cases h
    exact pmU_T rfl rfl rfl rfl rfl rfl
theorem L_Mo_readTerm_b2 {S : pmS} (d : Nat)    : ∀ (n0 : Nat) {v1 : Int32} {σ τ : Mem} {z : Mem}, Mo_readTerm_b2 n0 v1 σ = some z → pmU S (d + 3) 118 2 [some (.ref 112), some (.int v1), none, none, none, none, none] [] (shH τ σ) none (shH τ z) := by
  intro n0
  induction n0 with
  | zero =>
    intro v1 σ τ z  h
    unfold Mo_readTerm_b2 at h
    cases h
  | succ n1 ih =>
    intro v1 σ τ z  h
    unfold Mo_readTerm_b2 at h
    refine pmSeg_U (pc' := 3) (ls' := [some (.ref 112), some (.int v1), none, none, none, none, none]) (st' := [.int v1]) 1 rfl ?_
    refine pu_ifP (tg := 194) h rfl rfl rfl (fun h => ?_) (fun h => ?_)
    · refine pmSeg_U (pc' := 194) (ls' := [some (.ref 112), some (.int v1), none, none, none, none, none]) (st' := []) 0 rfl ?_
      cases h
      exact pmU_T rfl rfl rfl rfl rfl rfl
    · refine pmSeg_U (pc' := 10) (ls' := [some (.ref 112), some (.int v1), none, none, none, none, none]) (st' := [.int (σ 0 15)]) 2 rfl ?_
      refine pu_ifP (tg := 194) h rfl rfl rfl (fun h => ?_) (fun h => ?_)
      · refine pmSeg_U (pc' := 194) (ls' := [some (.ref 112), some (.int v1), none, none, none, none, none]) (st' := []) 0 rfl ?_
        cases h
        exact pmU_T rfl rfl rfl rfl rfl rfl
      · refine pmSeg_U (pc' := 14) (ls' := [some (.ref 112), some (.int v1), none, none, none, none, none]) (st' := [.ref 112]) 1 rfl ?_
        obtain ⟨q14, hq14, h⟩ := bd_in h
        refine pmU_C (av := [.ref 112]) (rest := []) rfl rfl rfl rfl rfl (L_Mo_here (d + 1) hq14) ?_
        refine pmSeg_U (pc' := 21) (ls' := [some (.ref 112), some (.int v1), some (.int q14.1), none, none, none, none]) (st' := [.int 33, .int q14.1]) 3 rfl ?_
        refine pu_icmpP (tg := 28) h rfl rfl rfl (fun h => ?_) (fun h => ?_)
        · refine pmSeg_U (pc' := 31) (ls' := [some (.ref 112), some (.int v1), some (.int q14.1), none, none, none, none]) (st' := [.int 40, .int q14.1]) 2 rfl ?_
          refine pu_icmpP (tg := 38) h rfl rfl rfl (fun h => ?_) (fun h => ?_)
          · refine pmSeg_U (pc' := 41) (ls' := [some (.ref 112), some (.int v1), some (.int q14.1), none, none, none, none]) (st' := [.int 91, .int q14.1]) 2 rfl ?_
            refine pu_icmpP (tg := 48) h rfl rfl rfl (fun h => ?_) (fun h => ?_)
            · refine pmSeg_U (pc' := 49) (ls' := [some (.ref 112), some (.int v1), some (.int q14.1), none, none, none, none]) (st' := [.int 0]) 1 rfl ?_
              refine pmU_le (a := [some (.ref 112), some (.int v1), none, none, none, none, none]) (le_s (le_s (le_v rfl (le_s (le_s (le_s (le_s le_nil))))))) ?_
              exact L_Mo_readTerm_b49 d ih h
            · refine pmSeg_U (pc' := 49) (ls' := [some (.ref 112), some (.int v1), some (.int q14.1), none, none, none, none]) (st' := [.int 3]) 2 rfl ?_
              refine pmU_le (a := [some (.ref 112), some (.int v1), none, none, none, none, none]) (le_s (le_s (le_v rfl (le_s (le_s (le_s (le_s le_nil))))))) ?_
              exact L_Mo_readTerm_b49 d ih h
          · refine pmSeg_U (pc' := 49) (ls' := [some (.ref 112), some (.int v1), some (.int q14.1), none, none, none, none]) (st' := [.int 2]) 2 rfl ?_
            refine pmU_le (a := [some (.ref 112), some (.int v1), none, none, none, none, none]) (le_s (le_s (le_v rfl (le_s (le_s (le_s (le_s le_nil))))))) ?_
            exact L_Mo_readTerm_b49 d ih h
        · refine pmSeg_U (pc' := 49) (ls' := [some (.ref 112), some (.int v1), some (.int q14.1), none, none, none, none]) (st' := [.int 4]) 2 rfl ?_
          refine pmU_le (a := [some (.ref 112), some (.int v1), none, none, none, none, none]) (le_s (le_s (le_v rfl (le_s (le_s (le_s (le_s le_nil))))))) ?_
          exact L_Mo_readTerm_b49 d ih h
theorem L_Mo_readTerm {S : pmS} (d : Nat)  {σ τ : Mem} {z : Mem}  (h : Mo_readTerm σ = some z) : pmX S (d + 4) 118 [.ref 112] (shH τ σ) none (shH τ z) := by
  unfold Mo_readTerm at h
  refine pmU_X rfl ?_
  refine pmSeg_U (pc' := 2) (ls' := [some (.ref 112), some (.int 1), none, none, none, none, none]) (st' := []) 2 rfl ?_
  exact L_Mo_readTerm_b2 d FU h
theorem L_Mo_isComparing' {S : pmS} (d : Nat) {v0 : Int32} {h0 : pmH} {z : Int32} (h : Mo_isComparing v0 = z) : pmX S (d + 1) 126 [.int v0] h0 (some (.int z)) h0 := by
  unfold Mo_isComparing at h
  refine pmU_X rfl ?_
  refine pmSeg_U (pc' := 3) (ls' := [some (.int v0)]) (st' := [.int 60, .int v0]) 2 rfl ?_
  refine pu_icmpP (tg := 18) h rfl rfl rfl (fun h => ?_) (fun h => ?_)
  · refine pmSeg_U (pc' := 23) (ls' := [some (.int v0)]) (st' := [.int 1]) 2 rfl ?_
    cases h
    exact pmU_T rfl rfl rfl rfl rfl rfl
  · refine pmSeg_U (pc' := 9) (ls' := [some (.int v0)]) (st' := [.int 61, .int v0]) 2 rfl ?_
    refine pu_icmpP (tg := 18) h rfl rfl rfl (fun h => ?_) (fun h => ?_)
    · refine pmSeg_U (pc' := 23) (ls' := [some (.int v0)]) (st' := [.int 1]) 2 rfl ?_
      cases h
      exact pmU_T rfl rfl rfl rfl rfl rfl
    · refine pmSeg_U (pc' := 15) (ls' := [some (.int v0)]) (st' := [.int 35, .int v0]) 2 rfl ?_
      refine pu_icmpP (tg := 22) h rfl rfl rfl (fun h => ?_) (fun h => ?_)
      · refine pmSeg_U (pc' := 23) (ls' := [some (.int v0)]) (st' := [.int 0]) 1 rfl ?_
        cases h
        exact pmU_T rfl rfl rfl rfl rfl rfl
      · refine pmSeg_U (pc' := 23) (ls' := [some (.int v0)]) (st' := [.int 1]) 2 rfl ?_
        cases h
        exact pmU_T rfl rfl rfl rfl rfl rfl
theorem L_Mo_isComparing {S : pmS} (d : Nat) {v0 : Int32} {h0 : pmH} : pmX S (d + 1) 126 [.int v0] h0 (some (.int (Mo_isComparing v0))) h0 := L_Mo_isComparing' d rfl
theorem bz_Mo_isComparing {v0 : Int32} : (Mo_isComparing v0 == 0 || Mo_isComparing v0 == 1) = true := by
  unfold Mo_isComparing
  first | rfl | (split <;> first | rfl | (split <;> first | rfl | (split <;> first | rfl | (split <;> first | rfl | (split <;> first | rfl | (split <;> first | rfl | (split <;> first | rfl | (split <;> first | rfl))))))))
theorem L_Mo_endRow_b238 {S : pmS} (d : Nat)    {s1 : Int32} {σ τ : Mem} {z : Mem}  (h : Mo_endRow_b238 s1 σ = some z) : pmU S (d + 4) 129 238 [none, none, none, none, none] [.int s1, .ref 112] (shH τ σ) none (shH τ z) := by
  unfold Mo_endRow_b238 at h
  refine pmSeg_U (pc' := 238) (ls' := [none, none, none, none, none]) (st' := [.int s1, .ref 112]) 0 rfl ?_
  refine pu_put rfl rfl rfl rfl rfl (shp_pM (c := 0) rfl) ?_
  refine pmSeg_U (pc' := 507) (ls' := [none, none, none, none, none]) (st' := []) 1 rfl ?_
  cases h
  exact pmU_T rfl rfl rfl rfl rfl rfl
theorem L_Mo_endRow_b206 {S : pmS} (d : Nat)    {v1 : Int32} {s1 : Int32} {σ τ : Mem} {z : Mem}  (h : Mo_endRow_b206 v1 s1 σ = some z) : pmU S (d + 4) 129 206 [some (.ref 112), some (.int v1), none, none, none] [.int s1, .ref 112] (shH τ σ) none (shH τ z) := by
  unfold Mo_endRow_b206 at h
  refine pmSeg_U (pc' := 207) (ls' := [some (.ref 112), some (.int v1), none, none, none]) (st' := [.int 0, .int s1, .ref 112]) 1 rfl ?_
  obtain ⟨q207, hq207, h⟩ := bd_in h
  refine pmU_C (av := [.ref 112, .int s1, .int 0]) (rest := []) rfl rfl rfl rfl rfl (L_Mo_emit (d + 3) hq207) ?_
  obtain ⟨g1, h⟩ := gd_in h
  refine pmSeg_U (pc' := 216) (ls' := [some (.ref 112), some (.int v1), none, none, none]) (st' := [.int v1, .ref 128, .ref 112]) 4 rfl ?_
  refine pu_iald rfl rfl g1 (shp_iM (c := 16) rfl) ?_
  refine pmSeg_U (pc' := 217) (ls' := [some (.ref 112), some (.int v1), none, none, none]) (st' := [.int (q207 16 v1.toNatClampNeg), .ref 112]) 0 rfl ?_
  refine pu_ifP (tg := 234) h rfl rfl rfl (fun h => ?_) (fun h => ?_)
  · refine pmSeg_U (pc' := 238) (ls' := [some (.ref 112), some (.int v1), none, none, none]) (st' := [.int (q207 0 16), .ref 112]) 2 rfl ?_
    refine pmU_le (a := [none, none, none, none, none]) (le_v rfl (le_v rfl (le_s (le_s (le_s le_nil))))) ?_
    exact L_Mo_endRow_b238 d h
  · obtain ⟨g2, h⟩ := gd_in h
    refine pmSeg_U (pc' := 229) (ls' := [some (.ref 112), some (.int v1), none, none, none]) (st' := [.int v1, .ref 150, .int (q207 0 16), .ref 112]) 5 rfl ?_
    refine pu_iald rfl rfl g2 (shp_iM (c := 38) rfl) ?_
    refine pmSeg_U (pc' := 238) (ls' := [some (.ref 112), some (.int v1), none, none, none]) (st' := [.int ((q207 0 16) ||| (q207 38 v1.toNatClampNeg)), .ref 112]) 2 rfl ?_
    refine pmU_le (a := [none, none, none, none, none]) (le_v rfl (le_v rfl (le_s (le_s (le_s le_nil))))) ?_
    exact L_Mo_endRow_b238 d h
theorem L_Mo_endRow_b157 {S : pmS} (d : Nat)    {v1 : Int32} {σ τ : Mem} {z : Mem}  (h : Mo_endRow_b157 v1 σ = some z) : pmU S (d + 4) 129 157 [some (.ref 112), some (.int v1), none, none, none] [] (shH τ σ) none (shH τ z) := by
  unfold Mo_endRow_b157 at h
  refine pmSeg_U (pc' := 161) (ls' := [some (.ref 112), some (.int v1), none, none, none]) (st' := [.int (σ 0 15)]) 2 rfl ?_
  refine pu_ifP (tg := 165) h rfl rfl rfl (fun h => ?_) (fun h => ?_)
  · refine pmSeg_U (pc' := 172) (ls' := [some (.ref 112), some (.int v1), none, none, none]) (st' := [.int ((σ 0 14) + 1), .ref 112]) 5 rfl ?_
    refine pu_put rfl rfl rfl rfl rfl (shp_pM (c := 0) rfl) ?_
    obtain ⟨g1, h⟩ := gd_in h
    refine pmSeg_U (pc' := 180) (ls' := [some (.ref 112), some (.int v1), none, none, none]) (st' := [.int v1, .ref 126]) 3 rfl ?_
    refine pu_iald rfl rfl g1 (shp_iM (c := 14) rfl) ?_
    refine pmSeg_U (pc' := 182) (ls' := [some (.ref 112), some (.int v1), none, none, none]) (st' := [.int 1, .int ((mput σ 0 14 ((σ 0 14) + 1)) 14 v1.toNatClampNeg)]) 1 rfl ?_
    refine pu_icmpP (tg := 244) h rfl rfl rfl (fun h => ?_) (fun h => ?_)
    · obtain ⟨g2, h⟩ := gd_in h
      refine pmSeg_U (pc' := 249) (ls' := [some (.ref 112), some (.int v1), none, none, none]) (st' := [.int v1, .ref 126]) 3 rfl ?_
      refine pu_iald rfl rfl g2 (shp_iM (c := 14) rfl) ?_
      refine pmSeg_U (pc' := 251) (ls' := [some (.ref 112), some (.int v1), none, none, none]) (st' := [.int 2, .int ((mput σ 0 14 ((σ 0 14) + 1)) 14 v1.toNatClampNeg)]) 1 rfl ?_
      refine pu_icmpP (tg := 289) h rfl rfl rfl (fun h => ?_) (fun h => ?_)
      · obtain ⟨g3, h⟩ := gd_in h
        refine pmSeg_U (pc' := 294) (ls' := [some (.ref 112), some (.int v1), none, none, none]) (st' := [.int v1, .ref 128]) 3 rfl ?_
        refine pu_iald rfl rfl g3 (shp_iM (c := 16) rfl) ?_
        refine pmSeg_U (pc' := 295) (ls' := [some (.ref 112), some (.int v1), none, none, none]) (st' := [.int ((mput σ 0 14 ((σ 0 14) + 1)) 16 v1.toNatClampNeg)]) 0 rfl ?_
        refine pu_ifP (tg := 362) h rfl rfl rfl (fun h => ?_) (fun h => ?_)
        · obtain ⟨g4, h⟩ := gd_in h
          refine pmSeg_U (pc' := 367) (ls' := [some (.ref 112), some (.int v1), none, none, none]) (st' := [.int v1, .ref 128]) 3 rfl ?_
          refine pu_iald rfl rfl g4 (shp_iM (c := 16) rfl) ?_
          refine pmSeg_U (pc' := 369) (ls' := [some (.ref 112), some (.int v1), none, none, none]) (st' := [.int 1, .int ((mput σ 0 14 ((σ 0 14) + 1)) 16 v1.toNatClampNeg)]) 1 rfl ?_
          refine pu_icmpP (tg := 451) h rfl rfl rfl (fun h => ?_) (fun h => ?_)
          · obtain ⟨g5, h⟩ := gd_in h
            refine pmSeg_U (pc' := 457) (ls' := [some (.ref 112), some (.int v1), none, none, none]) (st' := [.int v1, .ref 134, .ref 112]) 4 rfl ?_
            refine pu_iald rfl rfl g5 (shp_iM (c := 22) rfl) ?_
            refine pmSeg_U (pc' := 458) (ls' := [some (.ref 112), some (.int v1), none, none, none]) (st' := [.int ((mput σ 0 14 ((σ 0 14) + 1)) 22 v1.toNatClampNeg), .ref 112]) 0 rfl ?_
            obtain ⟨q458, hq458, h⟩ := bd_in h
            refine pmU_C (av := [.ref 112, .int ((mput σ 0 14 ((σ 0 14) + 1)) 22 v1.toNatClampNeg)]) (rest := []) rfl rfl rfl rfl rfl (L_Mo_patch (d + 3) hq458) ?_
            refine pmSeg_U (pc' := 468) (ls' := [some (.ref 112), some (.int v1), none, none, none]) (st' := [.int ((q458 0 17) - 1), .ref 112]) 5 rfl ?_
            refine pu_put rfl rfl rfl rfl rfl (shp_pM (c := 0) rfl) ?_
            obtain ⟨g6, h⟩ := gd_in h
            refine pmSeg_U (pc' := 477) (ls' := [some (.ref 112), some (.int v1), none, none, none]) (st' := [.int v1, .ref 149, .ref 112]) 4 rfl ?_
            refine pu_iald rfl rfl g6 (shp_iM (c := 37) rfl) ?_
            obtain ⟨g7, h⟩ := gd_in h
            refine pmSeg_U (pc' := 483) (ls' := [some (.ref 112), some (.int v1), none, none, none]) (st' := [.int v1, .ref 130, .int ((mput q458 0 17 ((q458 0 17) - 1)) 37 v1.toNatClampNeg), .ref 112]) 3 rfl ?_
            refine pu_iald rfl rfl g7 (shp_iM (c := 18) rfl) ?_
            obtain ⟨g8, h⟩ := gd_in h
            refine pmSeg_U (pc' := 489) (ls' := [some (.ref 112), some (.int v1), none, none, none]) (st' := [.int v1, .ref 131, .int ((mput q458 0 17 ((q458 0 17) - 1)) 18 v1.toNatClampNeg), .int ((mput q458 0 17 ((q458 0 17) - 1)) 37 v1.toNatClampNeg), .ref 112]) 3 rfl ?_
            refine pu_iald rfl rfl g8 (shp_iM (c := 19) rfl) ?_
            obtain ⟨g9, h⟩ := gd_in h
            refine pmSeg_U (pc' := 496) (ls' := [some (.ref 112), some (.int v1), none, none, none]) (st' := [.int v1, .ref 150, .int (((mput q458 0 17 ((q458 0 17) - 1)) 18 v1.toNatClampNeg) ||| ((mput q458 0 17 ((q458 0 17) - 1)) 19 v1.toNatClampNeg)), .int ((mput q458 0 17 ((q458 0 17) - 1)) 37 v1.toNatClampNeg), .ref 112]) 4 rfl ?_
            refine pu_iald rfl rfl g9 (shp_iM (c := 38) rfl) ?_
            obtain ⟨g10, h⟩ := gd_in h
            refine pmSeg_U (pc' := 503) (ls' := [some (.ref 112), some (.int v1), none, none, none]) (st' := [.int v1, .ref 127, .int ((((mput q458 0 17 ((q458 0 17) - 1)) 18 v1.toNatClampNeg) ||| ((mput q458 0 17 ((q458 0 17) - 1)) 19 v1.toNatClampNeg)) &&& ((mput q458 0 17 ((q458 0 17) - 1)) 38 v1.toNatClampNeg)), .int ((mput q458 0 17 ((q458 0 17) - 1)) 37 v1.toNatClampNeg), .ref 112]) 4 rfl ?_
            refine pu_iald rfl rfl g10 (shp_iM (c := 15) rfl) ?_
            refine pmSeg_U (pc' := 504) (ls' := [some (.ref 112), some (.int v1), none, none, none]) (st' := [.int ((mput q458 0 17 ((q458 0 17) - 1)) 15 v1.toNatClampNeg), .int ((((mput q458 0 17 ((q458 0 17) - 1)) 18 v1.toNatClampNeg) ||| ((mput q458 0 17 ((q458 0 17) - 1)) 19 v1.toNatClampNeg)) &&& ((mput q458 0 17 ((q458 0 17) - 1)) 38 v1.toNatClampNeg)), .int ((mput q458 0 17 ((q458 0 17) - 1)) 37 v1.toNatClampNeg), .ref 112]) 0 rfl ?_
            obtain ⟨q504, hq504, h⟩ := bd_in h
            refine pmU_C (av := [.ref 112, .int ((mput q458 0 17 ((q458 0 17) - 1)) 37 v1.toNatClampNeg), .int ((((mput q458 0 17 ((q458 0 17) - 1)) 18 v1.toNatClampNeg) ||| ((mput q458 0 17 ((q458 0 17) - 1)) 19 v1.toNatClampNeg)) &&& ((mput q458 0 17 ((q458 0 17) - 1)) 38 v1.toNatClampNeg)), .int ((mput q458 0 17 ((q458 0 17) - 1)) 15 v1.toNatClampNeg)]) (rest := []) rfl rfl rfl rfl rfl (L_Mo_endTerm (d + 2) hq504) ?_
            refine pmSeg_U (pc' := 507) (ls' := [some (.ref 112), some (.int v1), none, none, none]) (st' := []) 0 rfl ?_
            cases h
            exact pmU_T rfl rfl rfl rfl rfl rfl
          · obtain ⟨g11, h⟩ := gd_in h
            refine pmSeg_U (pc' := 382) (ls' := [some (.ref 112), some (.int v1), none, none, none]) (st' := [.int v1, .ref 150, .int v1, .ref 131]) 6 rfl ?_
            refine pu_iald rfl rfl g11 (shp_iM (c := 38) rfl) ?_
            obtain ⟨g12, h⟩ := gd_in h
            refine pmSeg_U (pc' := 383) (ls' := [some (.ref 112), some (.int v1), none, none, none]) (st' := [.int ((mput σ 0 14 ((σ 0 14) + 1)) 38 v1.toNatClampNeg), .int v1, .ref 131]) 0 rfl ?_
            refine pu_iast rfl rfl g12 (shp_pM (c := 19) rfl) ?_
            obtain ⟨g13, h⟩ := gd_in h
            refine pmSeg_U (pc' := 394) (ls' := [some (.ref 112), some (.int v1), none, none, none]) (st' := [.int v1, .ref 149, .int v1, .ref 129]) 6 rfl ?_
            refine pu_iald rfl rfl g13 (shp_iM (c := 37) rfl) ?_
            obtain ⟨g14, h⟩ := gd_in h
            refine pmSeg_U (pc' := 395) (ls' := [some (.ref 112), some (.int v1), none, none, none]) (st' := [.int ((mput (mput σ 0 14 ((σ 0 14) + 1)) 19 v1.toNatClampNeg ((mput σ 0 14 ((σ 0 14) + 1)) 38 v1.toNatClampNeg)) 37 v1.toNatClampNeg), .int v1, .ref 129]) 0 rfl ?_
            refine pu_iast rfl rfl g14 (shp_pM (c := 17) rfl) ?_
            refine pmSeg_U (pc' := 399) (ls' := [some (.ref 112), some (.int v1), none, none, none]) (st' := [.int (-1), .int 4, .ref 112]) 3 rfl ?_
            obtain ⟨q399, hq399, h⟩ := bd_in h
            refine pmU_C (av := [.ref 112, .int 4, .int (-1)]) (rest := []) rfl rfl rfl rfl rfl (L_Mo_emit (d + 3) hq399) ?_
            obtain ⟨g15, h⟩ := gd_in h
            refine pmSeg_U (pc' := 413) (ls' := [some (.ref 112), some (.int v1), none, none, none]) (st' := [.int 16, .ref 123, .int v1, .ref 134]) 6 rfl ?_
            refine pu_iald rfl rfl g15 (shp_iM (c := 11) rfl) ?_
            obtain ⟨g16, h⟩ := gd_in h
            refine pmSeg_U (pc' := 416) (ls' := [some (.ref 112), some (.int v1), none, none, none]) (st' := [.int ((q399 11 16) - 1), .int v1, .ref 134]) 2 rfl ?_
            refine pu_iast rfl rfl g16 (shp_pM (c := 22) rfl) ?_
            obtain ⟨g17, h⟩ := gd_in h
            refine pmSeg_U (pc' := 423) (ls' := [some (.ref 112), some (.int v1), none, none, none]) (st' := [.int v1, .ref 133, .ref 112]) 4 rfl ?_
            refine pu_iald rfl rfl g17 (shp_iM (c := 21) rfl) ?_
            refine pmSeg_U (pc' := 424) (ls' := [some (.ref 112), some (.int v1), none, none, none]) (st' := [.int ((mput q399 22 v1.toNatClampNeg ((q399 11 16) - 1)) 21 v1.toNatClampNeg), .ref 112]) 0 rfl ?_
            obtain ⟨q424, hq424, h⟩ := bd_in h
            refine pmU_C (av := [.ref 112, .int ((mput q399 22 v1.toNatClampNeg ((q399 11 16) - 1)) 21 v1.toNatClampNeg)]) (rest := []) rfl rfl rfl rfl rfl (L_Mo_patch (d + 3) hq424) ?_
            obtain ⟨g18, h⟩ := gd_in h
            refine pmSeg_U (pc' := 433) (ls' := [some (.ref 112), some (.int v1), none, none, none]) (st' := [.int 2, .int v1, .ref 128]) 4 rfl ?_
            refine pu_iast rfl rfl g18 (shp_pM (c := 16) rfl) ?_
            obtain ⟨g19, h⟩ := gd_in h
            refine pmSeg_U (pc' := 440) (ls' := [some (.ref 112), some (.int v1), none, none, none]) (st' := [.int v1, .ref 132, .ref 112]) 4 rfl ?_
            refine pu_iald rfl rfl g19 (shp_iM (c := 20) rfl) ?_
            refine pmSeg_U (pc' := 441) (ls' := [some (.ref 112), some (.int v1), none, none, none]) (st' := [.int ((mput q424 16 v1.toNatClampNeg 2) 20 v1.toNatClampNeg), .ref 112]) 0 rfl ?_
            obtain ⟨q441, hq441, h⟩ := bd_in h
            refine pmU_C (av := [.ref 112, .int ((mput q424 16 v1.toNatClampNeg 2) 20 v1.toNatClampNeg)]) (rest := []) rfl rfl rfl rfl rfl (L_Mo_beginRow (d + 3) hq441) ?_
            refine pmSeg_U (pc' := 445) (ls' := [some (.ref 112), some (.int v1), none, none, none]) (st' := [.ref 112]) 1 rfl ?_
            obtain ⟨q445, hq445, h⟩ := bd_in h
            refine pmU_C (av := [.ref 112]) (rest := []) rfl rfl rfl rfl rfl (L_Mo_readTerm (d + 0) hq445) ?_
            refine pmSeg_U (pc' := 507) (ls' := [some (.ref 112), some (.int v1), none, none, none]) (st' := []) 1 rfl ?_
            cases h
            exact pmU_T rfl rfl rfl rfl rfl rfl
        · obtain ⟨g20, h⟩ := gd_in h
          refine pmSeg_U (pc' := 308) (ls' := [some (.ref 112), some (.int v1), none, none, none]) (st' := [.int v1, .ref 150, .int v1, .ref 130]) 6 rfl ?_
          refine pu_iald rfl rfl g20 (shp_iM (c := 38) rfl) ?_
          obtain ⟨g21, h⟩ := gd_in h
          refine pmSeg_U (pc' := 309) (ls' := [some (.ref 112), some (.int v1), none, none, none]) (st' := [.int ((mput σ 0 14 ((σ 0 14) + 1)) 38 v1.toNatClampNeg), .int v1, .ref 130]) 0 rfl ?_
          refine pu_iast rfl rfl g21 (shp_pM (c := 18) rfl) ?_
          refine pmSeg_U (pc' := 313) (ls' := [some (.ref 112), some (.int v1), none, none, none]) (st' := [.int (-1), .int 3, .ref 112]) 3 rfl ?_
          obtain ⟨q313, hq313, h⟩ := bd_in h
          refine pmU_C (av := [.ref 112, .int 3, .int (-1)]) (rest := []) rfl rfl rfl rfl rfl (L_Mo_emit (d + 3) hq313) ?_
          obtain ⟨g22, h⟩ := gd_in h
          refine pmSeg_U (pc' := 327) (ls' := [some (.ref 112), some (.int v1), none, none, none]) (st' := [.int 16, .ref 123, .int v1, .ref 133]) 6 rfl ?_
          refine pu_iald rfl rfl g22 (shp_iM (c := 11) rfl) ?_
          obtain ⟨g23, h⟩ := gd_in h
          refine pmSeg_U (pc' := 330) (ls' := [some (.ref 112), some (.int v1), none, none, none]) (st' := [.int ((q313 11 16) - 1), .int v1, .ref 133]) 2 rfl ?_
          refine pu_iast rfl rfl g23 (shp_pM (c := 21) rfl) ?_
          obtain ⟨g24, h⟩ := gd_in h
          refine pmSeg_U (pc' := 337) (ls' := [some (.ref 112), some (.int v1), none, none, none]) (st' := [.int 1, .int v1, .ref 128]) 4 rfl ?_
          refine pu_iast rfl rfl g24 (shp_pM (c := 16) rfl) ?_
          obtain ⟨g25, h⟩ := gd_in h
          refine pmSeg_U (pc' := 344) (ls' := [some (.ref 112), some (.int v1), none, none, none]) (st' := [.int v1, .ref 132, .ref 112]) 4 rfl ?_
          refine pu_iald rfl rfl g25 (shp_iM (c := 20) rfl) ?_
          obtain ⟨g26, h⟩ := gd_in h
          refine pmSeg_U (pc' := 350) (ls' := [some (.ref 112), some (.int v1), none, none, none]) (st' := [.int v1, .ref 130, .int ((mput (mput q313 21 v1.toNatClampNeg ((q313 11 16) - 1)) 16 v1.toNatClampNeg 1) 20 v1.toNatClampNeg), .ref 112]) 3 rfl ?_
          refine pu_iald rfl rfl g26 (shp_iM (c := 18) rfl) ?_
          refine pmSeg_U (pc' := 352) (ls' := [some (.ref 112), some (.int v1), none, none, none]) (st' := [.int (((mput (mput q313 21 v1.toNatClampNeg ((q313 11 16) - 1)) 16 v1.toNatClampNeg 1) 20 v1.toNatClampNeg) ||| ((mput (mput q313 21 v1.toNatClampNeg ((q313 11 16) - 1)) 16 v1.toNatClampNeg 1) 18 v1.toNatClampNeg)), .ref 112]) 1 rfl ?_
          obtain ⟨q352, hq352, h⟩ := bd_in h
          refine pmU_C (av := [.ref 112, .int (((mput (mput q313 21 v1.toNatClampNeg ((q313 11 16) - 1)) 16 v1.toNatClampNeg 1) 20 v1.toNatClampNeg) ||| ((mput (mput q313 21 v1.toNatClampNeg ((q313 11 16) - 1)) 16 v1.toNatClampNeg 1) 18 v1.toNatClampNeg))]) (rest := []) rfl rfl rfl rfl rfl (L_Mo_beginRow (d + 3) hq352) ?_
          refine pmSeg_U (pc' := 356) (ls' := [some (.ref 112), some (.int v1), none, none, none]) (st' := [.ref 112]) 1 rfl ?_
          obtain ⟨q356, hq356, h⟩ := bd_in h
          refine pmU_C (av := [.ref 112]) (rest := []) rfl rfl rfl rfl rfl (L_Mo_readTerm (d + 0) hq356) ?_
          refine pmSeg_U (pc' := 507) (ls' := [some (.ref 112), some (.int v1), none, none, none]) (st' := []) 1 rfl ?_
          cases h
          exact pmU_T rfl rfl rfl rfl rfl rfl
      · refine pmSeg_U (pc' := 261) (ls' := [some (.ref 112), some (.int v1), none, none, none]) (st' := [.int (((mput σ 0 14 ((σ 0 14) + 1)) 0 17) - 1), .ref 112]) 5 rfl ?_
        refine pu_put rfl rfl rfl rfl rfl (shp_pM (c := 0) rfl) ?_
        obtain ⟨g27, h⟩ := gd_in h
        refine pmSeg_U (pc' := 270) (ls' := [some (.ref 112), some (.int v1), none, none, none]) (st' := [.int v1, .ref 149, .ref 112]) 4 rfl ?_
        refine pu_iald rfl rfl g27 (shp_iM (c := 37) rfl) ?_
        obtain ⟨g28, h⟩ := gd_in h
        refine pmSeg_U (pc' := 276) (ls' := [some (.ref 112), some (.int v1), none, none, none]) (st' := [.int v1, .ref 150, .int ((mput (mput σ 0 14 ((σ 0 14) + 1)) 0 17 (((mput σ 0 14 ((σ 0 14) + 1)) 0 17) - 1)) 37 v1.toNatClampNeg), .ref 112]) 3 rfl ?_
        refine pu_iald rfl rfl g28 (shp_iM (c := 38) rfl) ?_
        obtain ⟨g29, h⟩ := gd_in h
        refine pmSeg_U (pc' := 282) (ls' := [some (.ref 112), some (.int v1), none, none, none]) (st' := [.int v1, .ref 127, .int ((mput (mput σ 0 14 ((σ 0 14) + 1)) 0 17 (((mput σ 0 14 ((σ 0 14) + 1)) 0 17) - 1)) 38 v1.toNatClampNeg), .int ((mput (mput σ 0 14 ((σ 0 14) + 1)) 0 17 (((mput σ 0 14 ((σ 0 14) + 1)) 0 17) - 1)) 37 v1.toNatClampNeg), .ref 112]) 3 rfl ?_
        refine pu_iald rfl rfl g29 (shp_iM (c := 15) rfl) ?_
        refine pmSeg_U (pc' := 283) (ls' := [some (.ref 112), some (.int v1), none, none, none]) (st' := [.int ((mput (mput σ 0 14 ((σ 0 14) + 1)) 0 17 (((mput σ 0 14 ((σ 0 14) + 1)) 0 17) - 1)) 15 v1.toNatClampNeg), .int ((mput (mput σ 0 14 ((σ 0 14) + 1)) 0 17 (((mput σ 0 14 ((σ 0 14) + 1)) 0 17) - 1)) 38 v1.toNatClampNeg), .int ((mput (mput σ 0 14 ((σ 0 14) + 1)) 0 17 (((mput σ 0 14 ((σ 0 14) + 1)) 0 17) - 1)) 37 v1.toNatClampNeg), .ref 112]) 0 rfl ?_
        obtain ⟨q283, hq283, h⟩ := bd_in h
        refine pmU_C (av := [.ref 112, .int ((mput (mput σ 0 14 ((σ 0 14) + 1)) 0 17 (((mput σ 0 14 ((σ 0 14) + 1)) 0 17) - 1)) 37 v1.toNatClampNeg), .int ((mput (mput σ 0 14 ((σ 0 14) + 1)) 0 17 (((mput σ 0 14 ((σ 0 14) + 1)) 0 17) - 1)) 38 v1.toNatClampNeg), .int ((mput (mput σ 0 14 ((σ 0 14) + 1)) 0 17 (((mput σ 0 14 ((σ 0 14) + 1)) 0 17) - 1)) 15 v1.toNatClampNeg)]) (rest := []) rfl rfl rfl rfl rfl (L_Mo_endTerm (d + 2) hq283) ?_
        refine pmSeg_U (pc' := 507) (ls' := [some (.ref 112), some (.int v1), none, none, none]) (st' := []) 1 rfl ?_
        cases h
        exact pmU_T rfl rfl rfl rfl rfl rfl
    · refine pmSeg_U (pc' := 187) (ls' := [some (.ref 112), some (.int v1), none, none, none]) (st' := [.int (-1), .ref 112]) 2 rfl ?_
      refine pu_put rfl rfl rfl rfl rfl (shp_pM (c := 0) rfl) ?_
      obtain ⟨g30, h⟩ := gd_in h
      refine pmSeg_U (pc' := 196) (ls' := [some (.ref 112), some (.int v1), none, none, none]) (st' := [.int v1, .ref 128, .ref 112]) 4 rfl ?_
      refine pu_iald rfl rfl g30 (shp_iM (c := 16) rfl) ?_
      refine pmSeg_U (pc' := 197) (ls' := [some (.ref 112), some (.int v1), none, none, none]) (st' := [.int ((mput (mput σ 0 14 ((σ 0 14) + 1)) 0 17 (-1)) 16 v1.toNatClampNeg), .ref 112]) 0 rfl ?_
      refine pu_ifP (tg := 204) h rfl rfl rfl (fun h => ?_) (fun h => ?_)
      · refine pmSeg_U (pc' := 206) (ls' := [some (.ref 112), some (.int v1), none, none, none]) (st' := [.int 6, .ref 112]) 1 rfl ?_
        exact L_Mo_endRow_b206 d h
      · refine pmSeg_U (pc' := 206) (ls' := [some (.ref 112), some (.int v1), none, none, none]) (st' := [.int 5, .ref 112]) 2 rfl ?_
        exact L_Mo_endRow_b206 d h
  · refine pmSeg_U (pc' := 164) (ls' := [some (.ref 112), some (.int v1), none, none, none]) (st' := []) 0 rfl ?_
    cases h
    exact pmU_T rfl rfl rfl rfl rfl rfl
theorem L_Mo_endRow_b141 {S : pmS} (d : Nat)    {v1 : Int32} {v2 : Int32} {s0 : Int32} {σ τ : Mem} {z : Mem}  (h : Mo_endRow_b141 v1 v2 s0 σ = some z) : pmU S (d + 4) 129 141 [some (.ref 112), some (.int v1), some (.int v2), none, none] [.int s0] (shH τ σ) none (shH τ z) := by
  unfold Mo_endRow_b141 at h
  refine pmSeg_U (pc' := 146) (ls' := [some (.ref 112), some (.int v1), some (.int v2), none, some (.int s0)]) (st' := [.int s0, .int v2]) 3 rfl ?_
  refine pu_icmpP (tg := 157) h rfl rfl rfl (fun h => ?_) (fun h => ?_)
  · refine pmSeg_U (pc' := 157) (ls' := [some (.ref 112), some (.int v1), some (.int v2), none, some (.int s0)]) (st' := []) 0 rfl ?_
    refine pmU_le (a := [some (.ref 112), some (.int v1), none, none, none]) (le_s (le_s (le_v rfl (le_s (le_v rfl le_nil))))) ?_
    exact L_Mo_endRow_b157 d h
  · refine pmSeg_U (pc' := 154) (ls' := [some (.ref 112), some (.int v1), some (.int v2), none, some (.int s0)]) (st' := [.int (σ 0 14), .ref 112]) 3 rfl ?_
    obtain ⟨q154, hq154, h⟩ := bd_in h
    refine pmU_C (av := [.ref 112, .int (σ 0 14)]) (rest := []) rfl rfl rfl rfl rfl (L_Mo_blame (d + 3) hq154) ?_
    refine pmSeg_U (pc' := 157) (ls' := [some (.ref 112), some (.int v1), some (.int v2), none, some (.int s0)]) (st' := []) 0 rfl ?_
    refine pmU_le (a := [some (.ref 112), some (.int v1), none, none, none]) (le_s (le_s (le_v rfl (le_s (le_v rfl le_nil))))) ?_
    exact L_Mo_endRow_b157 d h
theorem L_Mo_endRow_b94 {S : pmS} (d : Nat)    {v1 : Int32} {v2 : Int32} {σ τ : Mem} {z : Mem}  (h : Mo_endRow_b94 v1 v2 σ = some z) : pmU S (d + 4) 129 94 [some (.ref 112), some (.int v1), some (.int v2), none, none] [] (shH τ σ) none (shH τ z) := by
  unfold Mo_endRow_b94 at h
  obtain ⟨g1, h⟩ := gd_in h
  refine pmSeg_U (pc' := 99) (ls' := [some (.ref 112), some (.int v1), some (.int v2), none, none]) (st' := [.int v1, .ref 126]) 3 rfl ?_
  refine pu_iald rfl rfl g1 (shp_iM (c := 14) rfl) ?_
  refine pmSeg_U (pc' := 101) (ls' := [some (.ref 112), some (.int v1), some (.int v2), none, none]) (st' := [.int 1, .int (σ 14 v1.toNatClampNeg)]) 1 rfl ?_
  refine pu_icmpP (tg := 109) h rfl rfl rfl (fun h => ?_) (fun h => ?_)
  · obtain ⟨g2, h⟩ := gd_in h
    refine pmSeg_U (pc' := 114) (ls' := [some (.ref 112), some (.int v1), some (.int v2), none, none]) (st' := [.int v1, .ref 126]) 3 rfl ?_
    refine pu_iald rfl rfl g2 (shp_iM (c := 14) rfl) ?_
    refine pmSeg_U (pc' := 116) (ls' := [some (.ref 112), some (.int v1), some (.int v2), none, none]) (st' := [.int 2, .int (σ 14 v1.toNatClampNeg)]) 1 rfl ?_
    refine pu_icmpP (tg := 124) h rfl rfl rfl (fun h => ?_) (fun h => ?_)
    · obtain ⟨g3, h⟩ := gd_in h
      refine pmSeg_U (pc' := 129) (ls' := [some (.ref 112), some (.int v1), some (.int v2), none, none]) (st' := [.int v1, .ref 128]) 3 rfl ?_
      refine pu_iald rfl rfl g3 (shp_iM (c := 16) rfl) ?_
      refine pmSeg_U (pc' := 131) (ls' := [some (.ref 112), some (.int v1), some (.int v2), none, none]) (st' := [.int 2, .int (σ 16 v1.toNatClampNeg)]) 1 rfl ?_
      refine pu_icmpP (tg := 139) h rfl rfl rfl (fun h => ?_) (fun h => ?_)
      · refine pmSeg_U (pc' := 141) (ls' := [some (.ref 112), some (.int v1), some (.int v2), none, none]) (st' := [.int 93]) 1 rfl ?_
        exact L_Mo_endRow_b141 d h
      · refine pmSeg_U (pc' := 141) (ls' := [some (.ref 112), some (.int v1), some (.int v2), none, none]) (st' := [.int 58]) 2 rfl ?_
        exact L_Mo_endRow_b141 d h
    · refine pmSeg_U (pc' := 141) (ls' := [some (.ref 112), some (.int v1), some (.int v2), none, none]) (st' := [.int 41]) 2 rfl ?_
      exact L_Mo_endRow_b141 d h
  · refine pmSeg_U (pc' := 141) (ls' := [some (.ref 112), some (.int v1), some (.int v2), none, none]) (st' := [.int 125]) 2 rfl ?_
    exact L_Mo_endRow_b141 d h
theorem L_Mo_endRow_b84 {S : pmS} (d : Nat)    {v1 : Int32} {v2 : Int32} {σ τ : Mem} {z : Mem}  (h : Mo_endRow_b84 v1 v2 σ = some z) : pmU S (d + 4) 129 84 [some (.ref 112), some (.int v1), some (.int v2), none, none] [] (shH τ σ) none (shH τ z) := by
  unfold Mo_endRow_b84 at h
  obtain ⟨g1, h⟩ := gd_in h
  refine pmSeg_U (pc' := 90) (ls' := [some (.ref 112), some (.int v1), some (.int v2), none, none]) (st' := [.int v1, .ref 148, .ref 112]) 4 rfl ?_
  refine pu_iald rfl rfl g1 (shp_iM (c := 36) rfl) ?_
  refine pmSeg_U (pc' := 91) (ls' := [some (.ref 112), some (.int v1), some (.int v2), none, none]) (st' := [.int (σ 36 v1.toNatClampNeg), .ref 112]) 0 rfl ?_
  obtain ⟨q91, hq91, h⟩ := bd_in h
  refine pmU_C (av := [.ref 112, .int (σ 36 v1.toNatClampNeg)]) (rest := []) rfl rfl rfl rfl rfl (L_Mo_wrongType (d + 3) hq91) ?_
  refine pmSeg_U (pc' := 94) (ls' := [some (.ref 112), some (.int v1), some (.int v2), none, none]) (st' := []) 0 rfl ?_
  exact L_Mo_endRow_b94 d h
theorem L_Mo_endRow_b49 {S : pmS} (d : Nat)    {v1 : Int32} {v2 : Int32} {σ τ : Mem} {z : Mem}  (h : Mo_endRow_b49 v1 v2 σ = some z) : pmU S (d + 4) 129 49 [some (.ref 112), some (.int v1), some (.int v2), none, none] [] (shH τ σ) none (shH τ z) := by
  unfold Mo_endRow_b49 at h
  obtain ⟨g1, h⟩ := gd_in h
  refine pmSeg_U (pc' := 54) (ls' := [some (.ref 112), some (.int v1), some (.int v2), none, none]) (st' := [.int v1, .ref 126]) 3 rfl ?_
  refine pu_iald rfl rfl g1 (shp_iM (c := 14) rfl) ?_
  refine pmSeg_U (pc' := 56) (ls' := [some (.ref 112), some (.int v1), some (.int v2), none, none]) (st' := [.int 3, .int (σ 14 v1.toNatClampNeg)]) 1 rfl ?_
  refine pu_icmpP (tg := 94) h rfl rfl rfl (fun h => ?_) (fun h => ?_)
  · refine pmSeg_U (pc' := 94) (ls' := [some (.ref 112), some (.int v1), some (.int v2), none, none]) (st' := []) 0 rfl ?_
    exact L_Mo_endRow_b94 d h
  · obtain ⟨g2, h⟩ := gd_in h
    refine pmSeg_U (pc' := 64) (ls' := [some (.ref 112), some (.int v1), some (.int v2), none, none]) (st' := [.int v1, .ref 128]) 3 rfl ?_
    refine pu_iald rfl rfl g2 (shp_iM (c := 16) rfl) ?_
    refine pmSeg_U (pc' := 66) (ls' := [some (.ref 112), some (.int v1), some (.int v2), none, none]) (st' := [.int 2, .int (σ 16 v1.toNatClampNeg)]) 1 rfl ?_
    refine pu_icmpP (tg := 94) h rfl rfl rfl (fun h => ?_) (fun h => ?_)
    · refine pmSeg_U (pc' := 94) (ls' := [some (.ref 112), some (.int v1), some (.int v2), none, none]) (st' := []) 0 rfl ?_
      exact L_Mo_endRow_b94 d h
    · obtain ⟨g3, h⟩ := gd_in h
      refine pmSeg_U (pc' := 74) (ls' := [some (.ref 112), some (.int v1), some (.int v2), none, none]) (st' := [.int v1, .ref 149]) 3 rfl ?_
      refine pu_iald rfl rfl g3 (shp_iM (c := 37) rfl) ?_
      obtain ⟨g4, h⟩ := gd_in h
      refine pmSeg_U (pc' := 80) (ls' := [some (.ref 112), some (.int v1), some (.int v2), none, none]) (st' := [.int v1, .ref 129, .int (σ 37 v1.toNatClampNeg)]) 3 rfl ?_
      refine pu_iald rfl rfl g4 (shp_iM (c := 17) rfl) ?_
      refine pmSeg_U (pc' := 81) (ls' := [some (.ref 112), some (.int v1), some (.int v2), none, none]) (st' := [.int (σ 17 v1.toNatClampNeg), .int (σ 37 v1.toNatClampNeg)]) 0 rfl ?_
      refine pu_icmpP (tg := 94) h rfl rfl rfl (fun h => ?_) (fun h => ?_)
      · refine pmSeg_U (pc' := 94) (ls' := [some (.ref 112), some (.int v1), some (.int v2), none, none]) (st' := []) 0 rfl ?_
        exact L_Mo_endRow_b94 d h
      · refine pmSeg_U (pc' := 84) (ls' := [some (.ref 112), some (.int v1), some (.int v2), none, none]) (st' := []) 0 rfl ?_
        exact L_Mo_endRow_b84 d h
