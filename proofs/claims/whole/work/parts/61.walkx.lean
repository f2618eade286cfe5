theorem L_Ps_thing_b26 {S : pmS} (d : Nat)    {v1 : Int32} {v2 : Int32} {v3 : Int32} {s0 : Int32} {σ τ : Mem} {z : Int32 × Mem}  (h : Ps_thing_b26 v1 v2 v3 s0 σ = some z) : pmU S (d + 1) 24 26 [some (.ref 0), some (.int v1), some (.int v2), some (.int v3), none] [.int s0] (shH σ τ) (some (.int z.1)) (shH z.2 τ) := by
  unfold Ps_thing_b26 at h
  refine pmSeg_U (pc' := 30) (ls' := [some (.ref 0), some (.int v1), some (.int v2), some (.int v3), some (.int s0)]) (st' := [.int s0]) 2 rfl ?_
  refine pu_ifP (tg := 43) h rfl rfl rfl (fun h => ?_) (fun h => ?_)
  · refine pmSeg_U (pc' := 45) (ls' := [some (.ref 0), some (.int v1), some (.int v2), some (.int v3), some (.int s0)]) (st' := [.int s0]) 1 rfl ?_
    obtain ⟨g1, h⟩ := gd_in h
    cases h
    exact pu_retZ rfl rfl g1
  · refine pmSeg_U (pc' := 40) (ls' := [some (.ref 0), some (.int v1), some (.int v2), some (.int v3), some (.int s0)]) (st' := [.int v3, .int v2, .int v1, .ref 1]) 5 rfl ?_
    obtain ⟨q40, hq40, h⟩ := bd_in h
    refine pmU_C (av := [.ref 1, .int v1, .int v2, .int v3]) (rest := []) rfl rfl rfl rfl rfl (L_Wo_setThing (d + 0) hq40) ?_
    refine pmSeg_U (pc' := 45) (ls' := [some (.ref 0), some (.int v1), some (.int v2), some (.int v3), some (.int s0)]) (st' := [.int s0]) 1 rfl ?_
    obtain ⟨g2, h⟩ := gd_in h
    cases h
    exact pu_retZ rfl rfl g2
theorem L_Ps_thing_b25 {S : pmS} (d : Nat)    {v1 : Int32} {v2 : Int32} {v3 : Int32} {σ τ : Mem} {z : Int32 × Mem}  (h : Ps_thing_b25 v1 v2 v3 σ = some z) : pmU S (d + 1) 24 25 [some (.ref 0), some (.int v1), some (.int v2), some (.int v3), none] [] (shH σ τ) (some (.int z.1)) (shH z.2 τ) := by
  unfold Ps_thing_b25 at h
  refine pmSeg_U (pc' := 26) (ls' := [some (.ref 0), some (.int v1), some (.int v2), some (.int v3), none]) (st' := [.int 0]) 1 rfl ?_
  exact L_Ps_thing_b26 d h
theorem L_Ps_thing {S : pmS} (d : Nat) {v1 : Int32} {v2 : Int32} {v3 : Int32} {σ τ : Mem} {z : Int32 × Mem}  (h : Ps_thing v1 v2 v3 σ = some z) : pmX S (d + 2) 24 [.ref 0, .int v1, .int v2, .int v3] (shH σ τ) (some (.int z.1)) (shH z.2 τ) := by
  unfold Ps_thing at h
  refine pmU_X rfl ?_
  refine pmSeg_U (pc' := 1) (ls' := [some (.ref 0), some (.int v1), some (.int v2), some (.int v3), none]) (st' := [.int v1]) 1 rfl ?_
  refine pmU_C (av := [.int v1]) (rest := []) rfl rfl rfl rfl rfl (L_Ps_isOne (d + 0)) ?_
  refine pmSeg_U (pc' := 4) (ls' := [some (.ref 0), some (.int v1), some (.int v2), some (.int v3), none]) (st' := [.int (Ps_isOne v1)]) 0 rfl ?_
  refine pu_ifP (tg := 25) h rfl rfl rfl (fun h => ?_) (fun h => ?_)
  · refine pmSeg_U (pc' := 25) (ls' := [some (.ref 0), some (.int v1), some (.int v2), some (.int v3), none]) (st' := []) 0 rfl ?_
    exact L_Ps_thing_b25 d h
  · refine pmSeg_U (pc' := 8) (ls' := [some (.ref 0), some (.int v1), some (.int v2), some (.int v3), none]) (st' := [.int v2]) 1 rfl ?_
    refine pmU_C (av := [.int v2]) (rest := []) rfl rfl rfl rfl rfl (L_Ps_isNumber (d + 0)) ?_
    refine pmSeg_U (pc' := 11) (ls' := [some (.ref 0), some (.int v1), some (.int v2), some (.int v3), none]) (st' := [.int (Ps_isNumber v2)]) 0 rfl ?_
    refine pu_ifP (tg := 25) h rfl rfl rfl (fun h => ?_) (fun h => ?_)
    · refine pmSeg_U (pc' := 25) (ls' := [some (.ref 0), some (.int v1), some (.int v2), some (.int v3), none]) (st' := []) 0 rfl ?_
      exact L_Ps_thing_b25 d h
    · refine pmSeg_U (pc' := 15) (ls' := [some (.ref 0), some (.int v1), some (.int v2), some (.int v3), none]) (st' := [.int v3]) 1 rfl ?_
      refine pmU_C (av := [.int v3]) (rest := []) rfl rfl rfl rfl rfl (L_Ps_isOne (d + 0)) ?_
      refine pmSeg_U (pc' := 18) (ls' := [some (.ref 0), some (.int v1), some (.int v2), some (.int v3), none]) (st' := [.int (Ps_isOne v3)]) 0 rfl ?_
      refine pu_ifP (tg := 25) h rfl rfl rfl (fun h => ?_) (fun h => ?_)
      · refine pmSeg_U (pc' := 25) (ls' := [some (.ref 0), some (.int v1), some (.int v2), some (.int v3), none]) (st' := []) 0 rfl ?_
        exact L_Ps_thing_b25 d h
      · refine pmSeg_U (pc' := 26) (ls' := [some (.ref 0), some (.int v1), some (.int v2), some (.int v3), none]) (st' := [.int 1]) 2 rfl ?_
        exact L_Ps_thing_b26 d h
theorem L_Ne_holdersOf {S : pmS} (d : Nat) {v0 : Nat} {v1 : Int32} {σ τ : Mem} {z : Int32} (hv0 : isNe v0) (h : Ne_holdersOf v0 v1 σ = some z) : pmX S (d + 1) 28 [.ref v0, .int v1] (shH σ τ) (some (.int z)) (shH σ τ) := by
  unfold Ne_holdersOf at h
  refine pmU_X rfl ?_
  refine pmSeg_U (pc' := 1) (ls' := [some (.ref v0), some (.int v1)]) (st' := [.ref v0]) 1 rfl ?_
  refine pu_get rfl rfl (Ne_k hv0) (shp_R (Ne_f2 hv0)) ?_
  obtain ⟨g1, h⟩ := gd_in h
  refine pmSeg_U (pc' := 5) (ls' := [some (.ref v0), some (.int v1)]) (st' := [.int v1, .ref (v0 + 3)]) 1 rfl ?_
  refine pu_iald rfl (Ne_a3 hv0).1 g1 (shp_iX (fx_A (Ne_a3 hv0)) (Ne_a3 hv0).2) ?_
  refine pmSeg_U (pc' := 6) (ls' := [some (.ref v0), some (.int v1)]) (st' := [.int (σ (v0 + 3) v1.toNatClampNeg)]) 0 rfl ?_
  cases h
  exact pmU_T rfl rfl rfl rfl rfl rfl
theorem L_Wo_foldersOf {S : pmS} (d : Nat) {v1 : Int32} {σ τ : Mem} {z : Int32}  (h : Wo_foldersOf v1 σ = some z) : pmX S (d + 2) 29 [.ref 1, .int v1] (shH σ τ) (some (.int z)) (shH σ τ) := by
  unfold Wo_foldersOf at h
  refine pmU_X rfl ?_
  refine pmSeg_U (pc' := 5) (ls' := [some (.ref 1), some (.int v1)]) (st' := [.int v1, .ref 6]) 3 rfl ?_
  obtain ⟨q5, hq5, h⟩ := bd_in h
  refine pmU_C (av := [.ref 6, .int v1]) (rest := []) rfl rfl rfl rfl rfl (L_Ne_holdersOf (d + 0) (by decide) hq5) ?_
  refine pmSeg_U (pc' := 8) (ls' := [some (.ref 1), some (.int v1)]) (st' := [.int q5]) 0 rfl ?_
  cases h
  exact pmU_T rfl rfl rfl rfl rfl rfl
theorem L_Wo_groupsOf {S : pmS} (d : Nat) {v1 : Int32} {σ τ : Mem} {z : Int32}  (h : Wo_groupsOf v1 σ = some z) : pmX S (d + 2) 27 [.ref 1, .int v1] (shH σ τ) (some (.int z)) (shH σ τ) := by
  unfold Wo_groupsOf at h
  refine pmU_X rfl ?_
  refine pmSeg_U (pc' := 5) (ls' := [some (.ref 1), some (.int v1)]) (st' := [.int v1, .ref 2]) 3 rfl ?_
  obtain ⟨q5, hq5, h⟩ := bd_in h
  refine pmU_C (av := [.ref 2, .int v1]) (rest := []) rfl rfl rfl rfl rfl (L_Ne_holdersOf (d + 0) (by decide) hq5) ?_
  refine pmSeg_U (pc' := 8) (ls' := [some (.ref 1), some (.int v1)]) (st' := [.int q5]) 0 rfl ?_
  cases h
  exact pmU_T rfl rfl rfl rfl rfl rfl
theorem L_Ps_isIn {S : pmS} (d : Nat) {v1 : Int32} {v2 : Int32} {v3 : Int32} {σ τ : Mem} {z : Int32}  (h : Ps_isIn v1 v2 v3 σ = some z) : pmX S (d + 3) 26 [.ref 0, .int v1, .int v2, .int v3] (shH σ τ) (some (.int z)) (shH σ τ) := by
  unfold Ps_isIn at h
  refine pmU_X rfl ?_
  refine pmSeg_U (pc' := 1) (ls' := [some (.ref 0), some (.int v1), some (.int v2), some (.int v3)]) (st' := [.int v2]) 1 rfl ?_
  refine pmU_C (av := [.int v2]) (rest := []) rfl rfl rfl rfl rfl (L_Ps_isOne (d + 1)) ?_
  refine pmSeg_U (pc' := 4) (ls' := [some (.ref 0), some (.int v1), some (.int v2), some (.int v3)]) (st' := [.int (Ps_isOne v2)]) 0 rfl ?_
  refine pu_ifP (tg := 14) h rfl rfl rfl (fun h => ?_) (fun h => ?_)
  · refine pmSeg_U (pc' := 15) (ls' := [some (.ref 0), some (.int v1), some (.int v2), some (.int v3)]) (st' := [.int 0]) 1 rfl ?_
    cases h
    exact pmU_T rfl rfl rfl rfl rfl rfl
  · refine pmSeg_U (pc' := 8) (ls' := [some (.ref 0), some (.int v1), some (.int v2), some (.int v3)]) (st' := [.int v3]) 1 rfl ?_
    refine pmU_C (av := [.int v3]) (rest := []) rfl rfl rfl rfl rfl (L_Ps_isOne (d + 1)) ?_
    refine pmSeg_U (pc' := 11) (ls' := [some (.ref 0), some (.int v1), some (.int v2), some (.int v3)]) (st' := [.int (Ps_isOne v3)]) 0 rfl ?_
    refine pu_ifP (tg := 16) h rfl rfl rfl (fun h => ?_) (fun h => ?_)
    · refine pmSeg_U (pc' := 17) (ls' := [some (.ref 0), some (.int v1), some (.int v2), some (.int v3)]) (st' := [.int v1]) 1 rfl ?_
      refine pu_ifP (tg := 33) h rfl rfl rfl (fun h => ?_) (fun h => ?_)
      · refine pmSeg_U (pc' := 35) (ls' := [some (.ref 0), some (.int v1), some (.int v2), some (.int v3)]) (st' := [.int 2, .int v1]) 2 rfl ?_
        refine pu_icmpP (tg := 57) h rfl rfl rfl (fun h => ?_) (fun h => ?_)
        · refine pmSeg_U (pc' := 58) (ls' := [some (.ref 0), some (.int v1), some (.int v2), some (.int v3)]) (st' := [.int 0]) 1 rfl ?_
          cases h
          exact pmU_T rfl rfl rfl rfl rfl rfl
        · refine pmSeg_U (pc' := 43) (ls' := [some (.ref 0), some (.int v1), some (.int v2), some (.int v3)]) (st' := [.int v2, .ref 1]) 3 rfl ?_
          obtain ⟨q43, hq43, h⟩ := bd_in h
          refine pmU_C (av := [.ref 1, .int v2]) (rest := []) rfl rfl rfl rfl rfl (L_Wo_foldersOf (d + 0) hq43) ?_
          refine pmSeg_U (pc' := 47) (ls' := [some (.ref 0), some (.int v1), some (.int v2), some (.int v3)]) (st' := [.int v3, .int q43]) 1 rfl ?_
          refine pmU_C (av := [.int q43, .int v3]) (rest := []) rfl rfl rfl rfl rfl (L_Ps_hasBit (d + 1)) ?_
          refine pmSeg_U (pc' := 50) (ls' := [some (.ref 0), some (.int v1), some (.int v2), some (.int v3)]) (st' := [.int (Ps_hasBit q43 v3)]) 0 rfl ?_
          refine pu_ifP (tg := 57) h rfl rfl rfl (fun h => ?_) (fun h => ?_)
          · refine pmSeg_U (pc' := 58) (ls' := [some (.ref 0), some (.int v1), some (.int v2), some (.int v3)]) (st' := [.int 0]) 1 rfl ?_
            cases h
            exact pmU_T rfl rfl rfl rfl rfl rfl
          · refine pmSeg_U (pc' := 58) (ls' := [some (.ref 0), some (.int v1), some (.int v2), some (.int v3)]) (st' := [.int 1]) 2 rfl ?_
            cases h
            exact pmU_T rfl rfl rfl rfl rfl rfl
      · refine pmSeg_U (pc' := 25) (ls' := [some (.ref 0), some (.int v1), some (.int v2), some (.int v3)]) (st' := [.int v2, .ref 1]) 3 rfl ?_
        obtain ⟨q25, hq25, h⟩ := bd_in h
        refine pmU_C (av := [.ref 1, .int v2]) (rest := []) rfl rfl rfl rfl rfl (L_Wo_groupsOf (d + 0) hq25) ?_
        refine pmSeg_U (pc' := 29) (ls' := [some (.ref 0), some (.int v1), some (.int v2), some (.int v3)]) (st' := [.int v3, .int q25]) 1 rfl ?_
        refine pmU_C (av := [.int q25, .int v3]) (rest := []) rfl rfl rfl rfl rfl (L_Ps_hasBit (d + 1)) ?_
        refine pmSeg_U (pc' := 32) (ls' := [some (.ref 0), some (.int v1), some (.int v2), some (.int v3)]) (st' := [.int (Ps_hasBit q25 v3)]) 0 rfl ?_
        obtain ⟨g1, h⟩ := gd_in h
        cases h
        exact pu_retZ rfl rfl g1
    · refine pmSeg_U (pc' := 15) (ls' := [some (.ref 0), some (.int v1), some (.int v2), some (.int v3)]) (st' := [.int 0]) 1 rfl ?_
      cases h
      exact pmU_T rfl rfl rfl rfl rfl rfl
theorem L_Re_append_b17 {S : pmS} (d : Nat)    : ∀ (n0 : Nat) {v1 : Int64} {v3 : Int32} {v4 : Int32} {σ τ : Mem} {z : Int32 × Mem}, Re_append_b17 n0 v1 v3 v4 σ = some z → pmU S (d + 0) 31 17 [some (.ref 15), some (.long v1), none, some (.int v3), some (.int v4)] [] (shH σ τ) (some (.int z.1)) (shH z.2 τ) := by
  intro n0
  induction n0 with
  | zero =>
    intro v1 v3 v4 σ τ z  h
    unfold Re_append_b17 at h
    cases h
  | succ n1 ih =>
    intro v1 v3 v4 σ τ z  h
    unfold Re_append_b17 at h
    refine pmSeg_U (pc' := 20) (ls' := [some (.ref 15), some (.long v1), none, some (.int v3), some (.int v4)]) (st' := [.int v3, .int v4]) 2 rfl ?_
    refine pu_icmpP (tg := 53) h rfl rfl rfl (fun h => ?_) (fun h => ?_)
    · refine pmSeg_U (pc' := 60) (ls' := [some (.ref 15), some (.long v1), none, some (.int v3), some (.int v4)]) (st' := [.int ((σ 15 1) + v3), .ref 15]) 5 rfl ?_
      refine pu_put rfl rfl rfl rfl rfl (shp_pX rfl (by decide)) ?_
      refine pmSeg_U (pc' := 64) (ls' := [some (.ref 15), some (.long v1), none, some (.int v3), some (.int v4)]) (st' := [.int 1]) 1 rfl ?_
      cases h
      exact pmU_T rfl rfl rfl rfl rfl rfl
    · obtain ⟨g1, h⟩ := gd_in h
      refine pmSeg_U (pc' := 46) (ls' := [some (.ref 15), some (.long v1), none, some (.int v3), some (.int v4)]) (st' := [.int ((v1 >>> ((8 * v4).toInt64 &&& 63)).toInt32 &&& 255), .int ((σ 15 1) + v4), .ref 16]) 14 rfl ?_
      refine pu_iast rfl rfl g1 (shp_pX rfl (by decide)) ?_
      refine pmSeg_U (pc' := 17) (ls' := [some (.ref 15), some (.long v1), none, some (.int v3), some (.int (v4 + 1))]) (st' := []) 2 rfl ?_
      exact ih h
theorem L_Re_append {S : pmS} (d : Nat) {v1 : Int64} {v3 : Int32} {σ τ : Mem} {z : Int32 × Mem}  (h : Re_append v1 v3 σ = some z) : pmX S (d + 1) 31 [.ref 15, .long v1, .int v3] (shH σ τ) (some (.int z.1)) (shH z.2 τ) := by
  unfold Re_append at h
  refine pmU_X rfl ?_
  refine pmSeg_U (pc' := 9) (ls' := [some (.ref 15), some (.long v1), none, some (.int v3), none]) (st' := [.int 160, .int ((σ 15 1) + v3)]) 5 rfl ?_
  refine pu_icmpP (tg := 14) h rfl rfl rfl (fun h => ?_) (fun h => ?_)
  · refine pmSeg_U (pc' := 17) (ls' := [some (.ref 15), some (.long v1), none, some (.int v3), some (.int 0)]) (st' := []) 2 rfl ?_
    exact L_Re_append_b17 d FU h
  · refine pmSeg_U (pc' := 13) (ls' := [some (.ref 15), some (.long v1), none, some (.int v3), none]) (st' := [.int 0]) 1 rfl ?_
    cases h
    exact pmU_T rfl rfl rfl rfl rfl rfl
theorem L_Re_length {S : pmS} (d : Nat)  {σ τ : Mem} {z : Int32}  (h : Re_length σ = some z) : pmX S (d + 1) 32 [.ref 15] (shH σ τ) (some (.int z)) (shH σ τ) := by
  unfold Re_length at h
  refine pmU_X rfl ?_
  refine pmSeg_U (pc' := 4) (ls' := [some (.ref 15)]) (st' := [.int (σ 15 1)]) 2 rfl ?_
  cases h
  exact pmU_T rfl rfl rfl rfl rfl rfl
theorem L_Ps_put {S : pmS} (d : Nat) {v1 : Int64} {v3 : Int32} {σ τ : Mem} {z : Int32 × Mem}  (h : Ps_put v1 v3 σ = some z) : pmX S (d + 2) 30 [.ref 0, .long v1, .int v3] (shH σ τ) (some (.int z.1)) (shH z.2 τ) := by
  unfold Ps_put at h
  refine pmU_X rfl ?_
  refine pmSeg_U (pc' := 2) (ls' := [some (.ref 0), some (.long v1), none, some (.int v3)]) (st' := [.int 1, .int v3]) 2 rfl ?_
  refine pu_icmpP (tg := 11) h rfl rfl rfl (fun h => ?_) (fun h => ?_)
  · refine pmSeg_U (pc' := 13) (ls' := [some (.ref 0), some (.long v1), none, some (.int v3)]) (st' := [.int (-2)]) 1 rfl ?_
    cases h
    exact pmU_T rfl rfl rfl rfl rfl rfl
  · refine pmSeg_U (pc' := 8) (ls' := [some (.ref 0), some (.long v1), none, some (.int v3)]) (st' := [.int 8, .int v3]) 2 rfl ?_
    refine pu_icmpP (tg := 14) h rfl rfl rfl (fun h => ?_) (fun h => ?_)
    · refine pmSeg_U (pc' := 20) (ls' := [some (.ref 0), some (.long v1), none, some (.int v3)]) (st' := [.int v3, .long v1, .ref 15]) 4 rfl ?_
      obtain ⟨q20, hq20, h⟩ := bd_in h
      refine pmU_C (av := [.ref 15, .long v1, .int v3]) (rest := []) rfl rfl rfl rfl rfl (L_Re_append (d + 0) hq20) ?_
      refine pmSeg_U (pc' := 23) (ls' := [some (.ref 0), some (.long v1), none, some (.int v3)]) (st' := [.int q20.1]) 0 rfl ?_
      refine pu_ifP (tg := 36) h rfl rfl rfl (fun h => ?_) (fun h => ?_)
      · refine pmSeg_U (pc' := 38) (ls' := [some (.ref 0), some (.long v1), none, some (.int v3)]) (st' := [.int (-3)]) 1 rfl ?_
        cases h
        exact pmU_T rfl rfl rfl rfl rfl rfl
      · refine pmSeg_U (pc' := 30) (ls' := [some (.ref 0), some (.long v1), none, some (.int v3)]) (st' := [.ref 15]) 2 rfl ?_
        obtain ⟨q30, hq30, h⟩ := bd_in h
        refine pmU_C (av := [.ref 15]) (rest := []) rfl rfl rfl rfl rfl (L_Re_length (d + 0) hq30) ?_
        refine pmSeg_U (pc' := 38) (ls' := [some (.ref 0), some (.long v1), none, some (.int v3)]) (st' := [.int q30]) 1 rfl ?_
        cases h
        exact pmU_T rfl rfl rfl rfl rfl rfl
    · refine pmSeg_U (pc' := 13) (ls' := [some (.ref 0), some (.long v1), none, some (.int v3)]) (st' := [.int (-2)]) 1 rfl ?_
      cases h
      exact pmU_T rfl rfl rfl rfl rfl rfl
theorem L_Re_clear {S : pmS} (d : Nat)  {σ τ : Mem} {z : Int32 × Mem}  (h : Re_clear σ = some z) : pmX S (d + 1) 34 [.ref 15] (shH σ τ) (some (.int z.1)) (shH z.2 τ) := by
  unfold Re_clear at h
  refine pmU_X rfl ?_
  refine pmSeg_U (pc' := 7) (ls' := [some (.ref 15), some (.int (σ 15 1))]) (st' := [.int 0, .ref 15]) 5 rfl ?_
  refine pu_put rfl rfl rfl rfl rfl (shp_pX rfl (by decide)) ?_
  refine pmSeg_U (pc' := 11) (ls' := [some (.ref 15), some (.int (σ 15 1))]) (st' := [.int (σ 15 1)]) 1 rfl ?_
  cases h
  exact pmU_T rfl rfl rfl rfl rfl rfl
theorem L_Ps_wipe {S : pmS} (d : Nat)  {σ τ : Mem} {z : Int32 × Mem}  (h : Ps_wipe σ = some z) : pmX S (d + 2) 33 [.ref 0] (shH σ τ) (some (.int z.1)) (shH z.2 τ) := by
  unfold Ps_wipe at h
  refine pmU_X rfl ?_
  refine pmSeg_U (pc' := 4) (ls' := [some (.ref 0)]) (st' := [.ref 15]) 2 rfl ?_
  obtain ⟨q4, hq4, h⟩ := bd_in h
  refine pmU_C (av := [.ref 15]) (rest := []) rfl rfl rfl rfl rfl (L_Re_clear (d + 0) hq4) ?_
  refine pmSeg_U (pc' := 7) (ls' := [some (.ref 0)]) (st' := [.int q4.1]) 0 rfl ?_
  cases h
  exact pmU_T rfl rfl rfl rfl rfl rfl
theorem K_Ps_chosen {v1 : Int32} {σ : Mem} {z : Nat}  (h : Ps_chosen v1 σ = some z) : isSe z := by
  unfold Ps_chosen at h
  first
  | (split at h <;> (cases h; decide))
  | (obtain ⟨_, h⟩ := gd_in h; obtain ⟨g, h⟩ := gd_in h; cases h; exact g)
theorem L_Ps_chosen {S : pmS} (d : Nat) {v1 : Int32} {σ τ : Mem} {z : Nat}  (h : Ps_chosen v1 σ = some z) : pmX S (d + 1) 37 [.ref 0, .int v1] (shH σ τ) (some (.ref z)) (shH σ τ) := by
  unfold Ps_chosen at h
  refine pmU_X rfl ?_
  refine pmSeg_U (pc' := 1) (ls' := [some (.ref 0), some (.int v1)]) (st' := [.int v1]) 1 rfl ?_
  refine pu_ifP (tg := 11) h rfl rfl rfl (fun h => ?_) (fun h => ?_)
  · refine pmSeg_U (pc' := 15) (ls' := [some (.ref 0), some (.int v1)]) (st' := [.ref 64]) 2 rfl ?_
    cases h
    exact pmU_T rfl rfl rfl rfl rfl rfl
  · refine pmSeg_U (pc' := 15) (ls' := [some (.ref 0), some (.int v1)]) (st' := [.ref 17]) 3 rfl ?_
    cases h
    exact pmU_T rfl rfl rfl rfl rfl rfl
theorem L_Ps_isSet' {S : pmS} (d : Nat) {v0 : Int32} {h0 : pmH} {z : Int32} (h : Ps_isSet v0 = z) : pmX S (d + 1) 36 [.int v0] h0 (some (.int z)) h0 := by
  unfold Ps_isSet at h
  refine pmU_X rfl ?_
  refine pmSeg_U (pc' := 1) (ls' := [some (.int v0)]) (st' := [.int v0]) 1 rfl ?_
  refine pu_ifP (tg := 13) h rfl rfl rfl (fun h => ?_) (fun h => ?_)
  · refine pmSeg_U (pc' := 14) (ls' := [some (.int v0)]) (st' := [.int 0]) 1 rfl ?_
    cases h
    exact pmU_T rfl rfl rfl rfl rfl rfl
  · refine pmSeg_U (pc' := 6) (ls' := [some (.int v0)]) (st' := [.int 2, .int v0]) 2 rfl ?_
    refine pu_icmpP (tg := 13) h rfl rfl rfl (fun h => ?_) (fun h => ?_)
    · refine pmSeg_U (pc' := 14) (ls' := [some (.int v0)]) (st' := [.int 0]) 1 rfl ?_
      cases h
      exact pmU_T rfl rfl rfl rfl rfl rfl
    · refine pmSeg_U (pc' := 14) (ls' := [some (.int v0)]) (st' := [.int 1]) 2 rfl ?_
      cases h
      exact pmU_T rfl rfl rfl rfl rfl rfl
theorem L_Ps_isSet {S : pmS} (d : Nat) {v0 : Int32} {h0 : pmH} : pmX S (d + 1) 36 [.int v0] h0 (some (.int (Ps_isSet v0))) h0 := L_Ps_isSet' d rfl
theorem bz_Ps_isSet {v0 : Int32} : (Ps_isSet v0 == 0 || Ps_isSet v0 == 1) = true := by
  unfold Ps_isSet
  first | rfl | exact bz_Ps_hasBit | (split <;> first | rfl | exact bz_Ps_hasBit | (split <;> first | rfl | exact bz_Ps_hasBit | (split <;> first | rfl | exact bz_Ps_hasBit | (split <;> first | rfl | exact bz_Ps_hasBit | (split <;> first | rfl | exact bz_Ps_hasBit | (split <;> first | rfl | exact bz_Ps_hasBit | (split <;> first | rfl | exact bz_Ps_hasBit | (split <;> first | rfl | exact bz_Ps_hasBit))))))))
theorem L_Se_count {S : pmS} (d : Nat) {v0 : Nat} {σ τ : Mem} {z : Int32} (hv0 : isSe v0) (h : Se_count v0 σ = some z) : pmX S (d + 1) 66 [.ref v0] (shH σ τ) (some (.int z)) (shH σ τ) := by
  unfold Se_count at h
  refine pmU_X rfl ?_
  refine pmSeg_U (pc' := 1) (ls' := [some (.ref v0)]) (st' := [.ref v0]) 1 rfl ?_
  refine pu_get rfl rfl (Se_k hv0) (shp_iX (Se_f1 hv0) (Se_lt hv0)) ?_
  refine pmSeg_U (pc' := 4) (ls' := [some (.ref v0)]) (st' := [.int (σ v0 1)]) 0 rfl ?_
  cases h
  exact pmU_T rfl rfl rfl rfl rfl rfl
theorem L_Se_keepSpare {S : pmS} (d : Nat) {v0 : Nat} {σ τ : Mem} {z : Int32 × Mem} (hv0 : isSe v0) (h : Se_keepSpare v0 σ = some z) : pmX S (d + 1) 67 [.ref v0] (shH σ τ) (some (.int z.1)) (shH z.2 τ) := by
  unfold Se_keepSpare at h
  refine pmU_X rfl ?_
  refine pmSeg_U (pc' := 2) (ls' := [some (.ref v0)]) (st' := [.ref v0, .ref v0]) 2 rfl ?_
  refine pu_get rfl rfl (Se_k hv0) (shp_iX (Se_f1 hv0) (Se_lt hv0)) ?_
  refine pmSeg_U (pc' := 7) (ls' := [some (.ref v0)]) (st' := [.int ((σ v0 1) + 1), .ref v0]) 2 rfl ?_
  refine pu_put rfl rfl (Se_k hv0) rfl rfl (shp_pX (Se_f1 hv0) (Se_lt hv0)) ?_
  refine pmSeg_U (pc' := 11) (ls' := [some (.ref v0)]) (st' := [.ref v0]) 1 rfl ?_
  refine pu_get rfl rfl (Se_k hv0) (shp_iX (Se_f1 hv0) (Se_lt hv0)) ?_
  refine pmSeg_U (pc' := 16) (ls' := [some (.ref v0)]) (st' := [.int (((mput σ v0 1 ((σ v0 1) + 1)) v0 1) - 1)]) 2 rfl ?_
  cases h
  exact pmU_T rfl rfl rfl rfl rfl rfl
theorem K_Se_spare {v0 : Nat} {σ : Mem} {z : Nat} (hv0 : isSe v0) (h : Se_spare v0 σ = some z) : isPo z := by
  unfold Se_spare at h
  first
  | (split at h <;> (cases h; decide))
  | (obtain ⟨_, h⟩ := gd_in h; obtain ⟨g, h⟩ := gd_in h; cases h; exact g)
theorem L_Se_spare {S : pmS} (d : Nat) {v0 : Nat} {σ τ : Mem} {z : Nat} (hv0 : isSe v0) (h : Se_spare v0 σ = some z) : pmX S (d + 1) 38 [.ref v0] (shH σ τ) (some (.ref z)) (shH σ τ) := by
  unfold Se_spare at h
  refine pmU_X rfl ?_
  refine pmSeg_U (pc' := 1) (ls' := [some (.ref v0)]) (st' := [.ref v0]) 1 rfl ?_
  refine pu_get rfl rfl (Se_k hv0) (shp_R (Se_f0 hv0)) ?_
  refine pmSeg_U (pc' := 5) (ls' := [some (.ref v0)]) (st' := [.ref v0, .ref (v0 + 1)]) 1 rfl ?_
  refine pu_get rfl rfl (Se_k hv0) (shp_iX (Se_f1 hv0) (Se_lt hv0)) ?_
  obtain ⟨g1, h⟩ := gd_in h
  obtain ⟨g2, h⟩ := gd_in h
  refine pmSeg_U (pc' := 8) (ls' := [some (.ref v0)]) (st' := [.int (σ v0 1), .ref (v0 + 1)]) 0 rfl ?_
  refine pu_aald rfl (Se_a1 hv0).1 g1 (shp_mX (fx_P (Se_a1 hv0)) (Se_a1 hv0).2 (po_nn g2)) ?_
  refine pmSeg_U (pc' := 9) (ls' := [some (.ref v0)]) (st' := [.ref (ix (σ (v0 + 1) (σ v0 1).toNatClampNeg))]) 0 rfl ?_
  cases h
  exact pmU_T rfl rfl rfl rfl rfl rfl
theorem L_Po_begin {S : pmS} (d : Nat) {v0 : Nat} {σ τ : Mem} {z : Mem} (hv0 : isPo v0) (h : Po_begin v0 σ = some z) : pmX S (d + 1) 40 [.ref v0] (shH σ τ) none (shH z τ) := by
  unfold Po_begin at h
  refine pmU_X rfl ?_
  refine pmSeg_U (pc' := 2) (ls' := [some (.ref v0)]) (st' := [.int 0, .ref v0]) 2 rfl ?_
  refine pu_put rfl rfl (Po_k hv0) rfl rfl (shp_pX (Po_f9 hv0) (Po_lt hv0)) ?_
  refine pmSeg_U (pc' := 7) (ls' := [some (.ref v0)]) (st' := [.int 1, .ref v0]) 2 rfl ?_
  refine pu_put rfl rfl (Po_k hv0) rfl rfl (shp_pX (Po_f1 hv0) (Po_lt hv0)) ?_
  refine pmSeg_U (pc' := 12) (ls' := [some (.ref v0)]) (st' := [.int 0, .ref v0]) 2 rfl ?_
  refine pu_put rfl rfl (Po_k hv0) rfl rfl (shp_pX (Po_f3 hv0) (Po_lt hv0)) ?_
  refine pmSeg_U (pc' := 17) (ls' := [some (.ref v0)]) (st' := [.int (-1), .ref v0]) 2 rfl ?_
  refine pu_put rfl rfl (Po_k hv0) rfl rfl (shp_pX (Po_f12 hv0) (Po_lt hv0)) ?_
  refine pmSeg_U (pc' := 20) (ls' := [some (.ref v0)]) (st' := []) 0 rfl ?_
  cases h
  exact pmU_T rfl rfl rfl rfl rfl rfl
theorem L_Po_bitsOf' {S : pmS} (d : Nat) {v0 : Int32} {h0 : pmH} {z : Int32} (h : Po_bitsOf v0 = z) : pmX S (d + 1) 57 [.int v0] h0 (some (.int z)) h0 := by
  unfold Po_bitsOf at h
  refine pmU_X rfl ?_
  refine pmSeg_U (pc' := 1) (ls' := [some (.int v0)]) (st' := [.int v0]) 1 rfl ?_
  refine br_sw h (fun e1 h => ?_) (fun e1 h => ?_)
  · refine pu_sw (v := 98) (tg := 39) e1 rfl rfl rfl ?_
    refine pmSeg_U (pc' := 40) (ls' := [some (.int v0)]) (st' := [.int 2]) 1 rfl ?_
    cases h
    exact pmU_T rfl rfl rfl rfl rfl rfl
  refine br_sw h (fun e2 h => ?_) (fun e2 h => ?_)
  · refine pu_sw (v := 99) (tg := 41) e2 rfl rfl rfl ?_
    refine pmSeg_U (pc' := 42) (ls' := [some (.int v0)]) (st' := [.int 1]) 1 rfl ?_
    cases h
    exact pmU_T rfl rfl rfl rfl rfl rfl
  refine br_sw h (fun e3 h => ?_) (fun e3 h => ?_)
  · refine pu_sw (v := 110) (tg := 36) e3 rfl rfl rfl ?_
    refine pmSeg_U (pc' := 38) (ls' := [some (.int v0)]) (st' := [.int 28]) 1 rfl ?_
    cases h
    exact pmU_T rfl rfl rfl rfl rfl rfl
  refine pu_lswD (tg := 43) rfl rfl (ls_c (lv_neT e1 rfl) (ls_c (lv_neT e2 rfl) (ls_c (lv_neT e3 rfl) ls_n))) rfl ?_
  refine pmSeg_U (pc' := 44) (ls' := [some (.int v0)]) (st' := [.int 0]) 1 rfl ?_
  cases h
  exact pmU_T rfl rfl rfl rfl rfl rfl
theorem L_Po_bitsOf {S : pmS} (d : Nat) {v0 : Int32} {h0 : pmH} : pmX S (d + 1) 57 [.int v0] h0 (some (.int (Po_bitsOf v0))) h0 := L_Po_bitsOf' d rfl
theorem L_Po_append {S : pmS} (d : Nat) {v0 : Nat} {v1 : Int32} {v2 : Int32} {σ τ : Mem} {z : Mem} (hv0 : isPo v0) (h : Po_append v0 v1 v2 σ = some z) : pmX S (d + 2) 56 [.ref v0, .int v1, .int v2] (shH σ τ) none (shH z τ) := by
  unfold Po_append at h
  refine pmU_X rfl ?_
  refine pmSeg_U (pc' := 1) (ls' := [some (.ref v0), some (.int v1), some (.int v2)]) (st' := [.ref v0]) 1 rfl ?_
  refine pu_get rfl rfl (Po_k hv0) (shp_iX (Po_f9 hv0) (Po_lt hv0)) ?_
  refine pmSeg_U (pc' := 7) (ls' := [some (.ref v0), some (.int v1), some (.int v2)]) (st' := [.int 160, .int (σ v0 9)]) 1 rfl ?_
  refine pu_icmpP (tg := 53) h rfl rfl rfl (fun h => ?_) (fun h => ?_)
  · refine pmSeg_U (pc' := 53) (ls' := [some (.ref v0), some (.int v1), some (.int v2)]) (st' := []) 0 rfl ?_
    cases h
    exact pmU_T rfl rfl rfl rfl rfl rfl
  · refine pmSeg_U (pc' := 11) (ls' := [some (.ref v0), some (.int v1), some (.int v2)]) (st' := [.ref v0]) 1 rfl ?_
    refine pu_get rfl rfl (Po_k hv0) (shp_R (Po_f7 hv0)) ?_
    refine pmSeg_U (pc' := 15) (ls' := [some (.ref v0), some (.int v1), some (.int v2)]) (st' := [.ref v0, .ref (v0 + 1)]) 1 rfl ?_
    refine pu_get rfl rfl (Po_k hv0) (shp_iX (Po_f9 hv0) (Po_lt hv0)) ?_
    obtain ⟨g1, h⟩ := gd_in h
    refine pmSeg_U (pc' := 19) (ls' := [some (.ref v0), some (.int v1), some (.int v2)]) (st' := [.int v1, .int (σ v0 9), .ref (v0 + 1)]) 1 rfl ?_
    refine pu_iast rfl (Po_a1 hv0).1 g1 (shp_pX (fx_A (Po_a1 hv0)) (Po_a1 hv0).2) ?_
    refine pmSeg_U (pc' := 21) (ls' := [some (.ref v0), some (.int v1), some (.int v2)]) (st' := [.ref v0]) 1 rfl ?_
    refine pu_get rfl rfl (Po_k hv0) (shp_R (Po_f8 hv0)) ?_
    refine pmSeg_U (pc' := 25) (ls' := [some (.ref v0), some (.int v1), some (.int v2)]) (st' := [.ref v0, .ref (v0 + 2)]) 1 rfl ?_
    refine pu_get rfl rfl (Po_k hv0) (shp_iX (Po_f9 hv0) (Po_lt hv0)) ?_
    obtain ⟨g2, h⟩ := gd_in h
    refine pmSeg_U (pc' := 29) (ls' := [some (.ref v0), some (.int v1), some (.int v2)]) (st' := [.int v2, .int ((mput σ (v0 + 1) (σ v0 9).toNatClampNeg v1) v0 9), .ref (v0 + 2)]) 1 rfl ?_
    refine pu_iast rfl (Po_a2 hv0).1 g2 (shp_pX (fx_A (Po_a2 hv0)) (Po_a2 hv0).2) ?_
    refine pmSeg_U (pc' := 32) (ls' := [some (.ref v0), some (.int v1), some (.int v2)]) (st' := [.ref v0, .ref v0]) 2 rfl ?_
    refine pu_get rfl rfl (Po_k hv0) (shp_iX (Po_f9 hv0) (Po_lt hv0)) ?_
    refine pmSeg_U (pc' := 37) (ls' := [some (.ref v0), some (.int v1), some (.int v2)]) (st' := [.int (((mput (mput σ (v0 + 1) (σ v0 9).toNatClampNeg v1) (v0 + 2) ((mput σ (v0 + 1) (σ v0 9).toNatClampNeg v1) v0 9).toNatClampNeg v2) v0 9) + 1), .ref v0]) 2 rfl ?_
    refine pu_put rfl rfl (Po_k hv0) rfl rfl (shp_pX (Po_f9 hv0) (Po_lt hv0)) ?_
    refine pmSeg_U (pc' := 42) (ls' := [some (.ref v0), some (.int v1), some (.int v2)]) (st' := [.ref v0, .ref v0]) 2 rfl ?_
    refine pu_get rfl rfl (Po_k hv0) (shp_iX (Po_f3 hv0) (Po_lt hv0)) ?_
    refine pmSeg_U (pc' := 46) (ls' := [some (.ref v0), some (.int v1), some (.int v2)]) (st' := [.int v1, .int ((mput (mput (mput σ (v0 + 1) (σ v0 9).toNatClampNeg v1) (v0 + 2) ((mput σ (v0 + 1) (σ v0 9).toNatClampNeg v1) v0 9).toNatClampNeg v2) v0 9 (((mput (mput σ (v0 + 1) (σ v0 9).toNatClampNeg v1) (v0 + 2) ((mput σ (v0 + 1) (σ v0 9).toNatClampNeg v1) v0 9).toNatClampNeg v2) v0 9) + 1)) v0 3), .ref v0]) 1 rfl ?_
    refine pmU_C (av := [.int v1]) (rest := [.int ((mput (mput (mput σ (v0 + 1) (σ v0 9).toNatClampNeg v1) (v0 + 2) ((mput σ (v0 + 1) (σ v0 9).toNatClampNeg v1) v0 9).toNatClampNeg v2) v0 9 (((mput (mput σ (v0 + 1) (σ v0 9).toNatClampNeg v1) (v0 + 2) ((mput σ (v0 + 1) (σ v0 9).toNatClampNeg v1) v0 9).toNatClampNeg v2) v0 9) + 1)) v0 3), .ref v0]) rfl rfl rfl rfl rfl (L_Po_bitsOf (d + 0)) ?_
    refine pmSeg_U (pc' := 50) (ls' := [some (.ref v0), some (.int v1), some (.int v2)]) (st' := [.int (((mput (mput (mput σ (v0 + 1) (σ v0 9).toNatClampNeg v1) (v0 + 2) ((mput σ (v0 + 1) (σ v0 9).toNatClampNeg v1) v0 9).toNatClampNeg v2) v0 9 (((mput (mput σ (v0 + 1) (σ v0 9).toNatClampNeg v1) (v0 + 2) ((mput σ (v0 + 1) (σ v0 9).toNatClampNeg v1) v0 9).toNatClampNeg v2) v0 9) + 1)) v0 3) ||| (Po_bitsOf v1)), .ref v0]) 1 rfl ?_
    refine pu_put rfl rfl (Po_k hv0) rfl rfl (shp_pX (Po_f3 hv0) (Po_lt hv0)) ?_
    refine pmSeg_U (pc' := 53) (ls' := [some (.ref v0), some (.int v1), some (.int v2)]) (st' := []) 0 rfl ?_
    cases h
    exact pmU_T rfl rfl rfl rfl rfl rfl
theorem L_Po_landHere {S : pmS} (d : Nat) {v0 : Nat} {v1 : Int32} {σ τ : Mem} {z : Mem} (hv0 : isPo v0) (h : Po_landHere v0 v1 σ = some z) : pmX S (d + 1) 64 [.ref v0, .int v1] (shH σ τ) none (shH z τ) := by
  unfold Po_landHere at h
  refine pmU_X rfl ?_
  refine pmSeg_U (pc' := 1) (ls' := [some (.ref v0), some (.int v1)]) (st' := [.int v1]) 1 rfl ?_
  refine pu_ifP (tg := 22) h rfl rfl rfl (fun h => ?_) (fun h => ?_)
  · refine pmSeg_U (pc' := 22) (ls' := [some (.ref v0), some (.int v1)]) (st' := []) 0 rfl ?_
    cases h
    exact pmU_T rfl rfl rfl rfl rfl rfl
  · refine pmSeg_U (pc' := 6) (ls' := [some (.ref v0), some (.int v1)]) (st' := [.ref v0, .int v1]) 2 rfl ?_
    refine pu_get rfl rfl (Po_k hv0) (shp_iX (Po_f9 hv0) (Po_lt hv0)) ?_
    refine pmSeg_U (pc' := 9) (ls' := [some (.ref v0), some (.int v1)]) (st' := [.int (σ v0 9), .int v1]) 0 rfl ?_
    refine pu_icmpP (tg := 22) h rfl rfl rfl (fun h => ?_) (fun h => ?_)
    · refine pmSeg_U (pc' := 22) (ls' := [some (.ref v0), some (.int v1)]) (st' := []) 0 rfl ?_
      cases h
      exact pmU_T rfl rfl rfl rfl rfl rfl
    · refine pmSeg_U (pc' := 13) (ls' := [some (.ref v0), some (.int v1)]) (st' := [.ref v0]) 1 rfl ?_
      refine pu_get rfl rfl (Po_k hv0) (shp_R (Po_f8 hv0)) ?_
      refine pmSeg_U (pc' := 18) (ls' := [some (.ref v0), some (.int v1)]) (st' := [.ref v0, .int v1, .ref (v0 + 2)]) 2 rfl ?_
      refine pu_get rfl rfl (Po_k hv0) (shp_iX (Po_f9 hv0) (Po_lt hv0)) ?_
      obtain ⟨g1, h⟩ := gd_in h
      refine pmSeg_U (pc' := 21) (ls' := [some (.ref v0), some (.int v1)]) (st' := [.int (σ v0 9), .int v1, .ref (v0 + 2)]) 0 rfl ?_
      refine pu_iast rfl (Po_a2 hv0).1 g1 (shp_pX (fx_A (Po_a2 hv0)) (Po_a2 hv0).2) ?_
      refine pmSeg_U (pc' := 22) (ls' := [some (.ref v0), some (.int v1)]) (st' := []) 0 rfl ?_
      cases h
      exact pmU_T rfl rfl rfl rfl rfl rfl
theorem L_Re_next {S : pmS} (d : Nat)  {σ τ : Mem} {z : Int32}  (h : Re_next σ = some z) : pmX S (d + 1) 41 [.ref 15] (shH σ τ) (some (.int z)) (shH σ τ) := by
  unfold Re_next at h
  refine pmU_X rfl ?_
  refine pmSeg_U (pc' := 4) (ls' := [some (.ref 15)]) (st' := [.int (σ 15 4)]) 2 rfl ?_
  refine pu_ifP (tg := 30) h rfl rfl rfl (fun h => ?_) (fun h => ?_)
  · refine pmSeg_U (pc' := 31) (ls' := [some (.ref 15)]) (st' := [.int (-1)]) 1 rfl ?_
    cases h
    exact pmU_T rfl rfl rfl rfl rfl rfl
  · refine pmSeg_U (pc' := 15) (ls' := [some (.ref 15)]) (st' := [.int (σ 15 1), .int (σ 15 3)]) 4 rfl ?_
    refine pu_icmpP (tg := 30) h rfl rfl rfl (fun h => ?_) (fun h => ?_)
    · refine pmSeg_U (pc' := 31) (ls' := [some (.ref 15)]) (st' := [.int (-1)]) 1 rfl ?_
      cases h
      exact pmU_T rfl rfl rfl rfl rfl rfl
    · obtain ⟨g1, h⟩ := gd_in h
      refine pmSeg_U (pc' := 26) (ls' := [some (.ref 15)]) (st' := [.int (σ 15 3), .ref 16]) 4 rfl ?_
      refine pu_iald rfl rfl g1 (shp_iX rfl (by decide)) ?_
      refine pmSeg_U (pc' := 31) (ls' := [some (.ref 15)]) (st' := [.int (σ 16 (σ 15 3).toNatClampNeg)]) 1 rfl ?_
      cases h
      exact pmU_T rfl rfl rfl rfl rfl rfl
theorem L_Re_refuseByte {S : pmS} (d : Nat)  {σ τ : Mem} {z : Mem}  (h : Re_refuseByte σ = some z) : pmX S (d + 1) 43 [.ref 15] (shH σ τ) none (shH z τ) := by
  unfold Re_refuseByte at h
  refine pmU_X rfl ?_
  refine pmSeg_U (pc' := 4) (ls' := [some (.ref 15)]) (st' := [.int (σ 15 4)]) 2 rfl ?_
  refine pu_ifP (tg := 18) h rfl rfl rfl (fun h => ?_) (fun h => ?_)
  · refine pmSeg_U (pc' := 18) (ls' := [some (.ref 15)]) (st' := []) 0 rfl ?_
    cases h
    exact pmU_T rfl rfl rfl rfl rfl rfl
  · refine pmSeg_U (pc' := 15) (ls' := [some (.ref 15)]) (st' := [.int ((-10) - (σ 15 3)), .ref 15]) 5 rfl ?_
    refine pu_put rfl rfl rfl rfl rfl (shp_pX rfl (by decide)) ?_
    refine pmSeg_U (pc' := 18) (ls' := [some (.ref 15)]) (st' := []) 0 rfl ?_
    cases h
    exact pmU_T rfl rfl rfl rfl rfl rfl
theorem L_Re_take {S : pmS} (d : Nat) {v1 : Int32} {σ τ : Mem} {z : Mem}  (h : Re_take v1 σ = some z) : pmX S (d + 2) 42 [.ref 15, .int v1] (shH σ τ) none (shH z τ) := by
  unfold Re_take at h
  refine pmU_X rfl ?_
  refine pmSeg_U (pc' := 1) (ls' := [some (.ref 15), some (.int v1)]) (st' := [.ref 15]) 1 rfl ?_
  obtain ⟨q1, hq1, h⟩ := bd_in h
  refine pmU_C (av := [.ref 15]) (rest := []) rfl rfl rfl rfl rfl (L_Re_next (d + 0) hq1) ?_
  refine pmSeg_U (pc' := 5) (ls' := [some (.ref 15), some (.int v1)]) (st' := [.int v1, .int q1]) 1 rfl ?_
  refine pu_icmpP (tg := 21) h rfl rfl rfl (fun h => ?_) (fun h => ?_)
  · refine pmSeg_U (pc' := 22) (ls' := [some (.ref 15), some (.int v1)]) (st' := [.ref 15]) 1 rfl ?_
    obtain ⟨q22, hq22, h⟩ := bd_in h
    refine pmU_C (av := [.ref 15]) (rest := []) rfl rfl rfl rfl rfl (L_Re_refuseByte (d + 0) hq22) ?_
    refine pmSeg_U (pc' := 25) (ls' := [some (.ref 15), some (.int v1)]) (st' := []) 0 rfl ?_
    cases h
    exact pmU_T rfl rfl rfl rfl rfl rfl
  · refine pmSeg_U (pc' := 15) (ls' := [some (.ref 15), some (.int v1)]) (st' := [.int ((σ 15 3) + 1), .ref 15]) 5 rfl ?_
    refine pu_put rfl rfl rfl rfl rfl (shp_pX rfl (by decide)) ?_
    refine pmSeg_U (pc' := 25) (ls' := [some (.ref 15), some (.int v1)]) (st' := []) 1 rfl ?_
    cases h
    exact pmU_T rfl rfl rfl rfl rfl rfl
theorem L_Re_branchAt {S : pmS} (d : Nat) {v1 : Int32} {v2 : Int32} {σ τ : Mem} {z : Int32 × Mem}  (h : Re_branchAt v1 v2 σ = some z) : pmX S (d + 3) 63 [.ref 15, .int v1, .int v2] (shH σ τ) (some (.int z.1)) (shH z.2 τ) := by
  unfold Re_branchAt at h
  refine pmU_X rfl ?_
  refine pmSeg_U (pc' := 2) (ls' := [some (.ref 15), some (.int v1), some (.int v2)]) (st' := [.int v1, .ref 15]) 2 rfl ?_
  obtain ⟨q2, hq2, h⟩ := bd_in h
  refine pmU_C (av := [.ref 15, .int v1]) (rest := []) rfl rfl rfl rfl rfl (L_Re_take (d + 0) hq2) ?_
  obtain ⟨g1, h⟩ := gd_in h
  refine pmSeg_U (pc' := 6) (ls' := [some (.ref 15), some (.int v1), some (.int v2)]) (st' := [.ref 15]) 1 rfl ?_
  refine pu_get rfl rfl rfl (shp_mX rfl (by decide) (po_nn g1)) ?_
  refine pmSeg_U (pc' := 11) (ls' := [some (.ref 15), some (.int v1), some (.int v2)]) (st' := [.int 0, .int v2, .ref (ix (q2 15 2))]) 2 rfl ?_
  obtain ⟨q11, hq11, h⟩ := bd_in h
  refine pmU_C (av := [.ref (ix (q2 15 2)), .int v2, .int 0]) (rest := []) rfl rfl rfl rfl (pmC_virt rfl rfl rfl (Po_k g1)) (L_Po_append (d + 0) g1 hq11) ?_
  obtain ⟨g2, h⟩ := gd_in h
  refine pmSeg_U (pc' := 15) (ls' := [some (.ref 15), some (.int v1), some (.int v2)]) (st' := [.ref 15]) 1 rfl ?_
  refine pu_get rfl rfl rfl (shp_mX rfl (by decide) (po_nn g2)) ?_
  refine pmSeg_U (pc' := 18) (ls' := [some (.ref 15), some (.int v1), some (.int v2)]) (st' := [.ref (ix (q11 15 2))]) 0 rfl ?_
  refine pu_get rfl rfl (Po_k g2) (shp_iX (Po_f9 g2) (Po_lt g2)) ?_
  refine pmSeg_U (pc' := 23) (ls' := [some (.ref 15), some (.int v1), some (.int v2)]) (st' := [.int ((q11 (ix (q11 15 2)) 9) - 1)]) 2 rfl ?_
  cases h
  exact pmU_T rfl rfl rfl rfl rfl rfl
theorem L_Re_branch {S : pmS} (d : Nat) {v1 : Int32} {σ τ : Mem} {z : Int32 × Mem}  (h : Re_branch v1 σ = some z) : pmX S (d + 4) 65 [.ref 15, .int v1] (shH σ τ) (some (.int z.1)) (shH z.2 τ) := by
  unfold Re_branch at h
  refine pmU_X rfl ?_
  refine pmSeg_U (pc' := 3) (ls' := [some (.ref 15), some (.int v1)]) (st' := [.int v1, .int v1, .ref 15]) 3 rfl ?_
  obtain ⟨q3, hq3, h⟩ := bd_in h
  refine pmU_C (av := [.ref 15, .int v1, .int v1]) (rest := []) rfl rfl rfl rfl rfl (L_Re_branchAt (d + 0) hq3) ?_
  refine pmSeg_U (pc' := 6) (ls' := [some (.ref 15), some (.int v1)]) (st' := [.int q3.1]) 0 rfl ?_
  cases h
  exact pmU_T rfl rfl rfl rfl rfl rfl
