theorem L_Ju_verdict {S : pmS} (d : Nat) {v1 : Nat} {v2 : Int32} {σ τ : Mem} {z : Int32 × Mem} (hv1 : isPo v1) (h : Ju_verdict v1 v2 σ = some z) : pmX S (d + 4) 90 [.ref 13, .ref v1, .int v2] (shH σ τ) (some (.int z.1)) (shH z.2 τ) := by
  unfold Ju_verdict at h
  refine pmU_X rfl ?_
  refine pmSeg_U (pc' := 3) (ls' := [some (.ref 13), some (.ref v1), some (.int v2), none]) (st' := [.int v2, .ref v1, .ref 13]) 3 rfl ?_
  refine pmU_C (av := [.int v2]) (rest := [.ref v1, .ref 13]) rfl rfl rfl rfl rfl (L_Ps_personOf (d + 2)) ?_
  refine pmSeg_U (pc' := 7) (ls' := [some (.ref 13), some (.ref v1), some (.int v2), none]) (st' := [.int v2, .int (Ps_personOf v2), .ref v1, .ref 13]) 1 rfl ?_
  refine pmU_C (av := [.int v2]) (rest := [.int (Ps_personOf v2), .ref v1, .ref 13]) rfl rfl rfl rfl rfl (L_Ps_thingOf (d + 2)) ?_
  refine pmSeg_U (pc' := 10) (ls' := [some (.ref 13), some (.ref v1), some (.int v2), none]) (st' := [.int (Ps_thingOf v2), .int (Ps_personOf v2), .ref v1, .ref 13]) 0 rfl ?_
  obtain ⟨q10, hq10, h⟩ := bd_in h
  refine pmU_C (av := [.ref 13, .ref v1, .int (Ps_personOf v2), .int (Ps_thingOf v2)]) (rest := []) rfl rfl rfl rfl rfl (L_Ju_covers (d + 0) hv1 hq10) ?_
  refine pmSeg_U (pc' := 13) (ls' := [some (.ref 13), some (.ref v1), some (.int v2), none]) (st' := [.int q10]) 0 rfl ?_
  refine pu_ifP (tg := 35) h rfl rfl rfl (fun h => ?_) (fun h => ?_)
  · refine pmSeg_U (pc' := 35) (ls' := [some (.ref 13), some (.ref v1), some (.int v2), none]) (st' := []) 0 rfl ?_
    exact L_Ju_verdict_b35 d hv1 h
  · refine pmSeg_U (pc' := 17) (ls' := [some (.ref 13), some (.ref v1), some (.int v2), none]) (st' := [.ref v1]) 1 rfl ?_
    refine pu_get rfl rfl (Po_k hv1) (shp_iX (Po_f5 hv1) (Po_lt hv1)) ?_
    refine pmSeg_U (pc' := 21) (ls' := [some (.ref 13), some (.ref v1), some (.int v2), none]) (st' := [.int v2, .int (σ v1 5)]) 1 rfl ?_
    refine pmU_C (av := [.int v2]) (rest := [.int (σ v1 5)]) rfl rfl rfl rfl rfl (L_Ps_deedOf (d + 2)) ?_
    refine pmSeg_U (pc' := 25) (ls' := [some (.ref 13), some (.ref v1), some (.int v2), none]) (st' := [.int 0, .int (Ps_deedOf v2), .int (σ v1 5)]) 1 rfl ?_
    refine pmU_C (av := [.int (σ v1 5), .int (Ps_deedOf v2), .int 0]) (rest := []) rfl rfl rfl rfl rfl (L_Ju_isInScope (d + 1)) ?_
    refine pmSeg_U (pc' := 28) (ls' := [some (.ref 13), some (.ref v1), some (.int v2), none]) (st' := [.int (Ju_isInScope (σ v1 5) (Ps_deedOf v2) 0)]) 0 rfl ?_
    refine pu_ifP (tg := 35) h rfl rfl rfl (fun h => ?_) (fun h => ?_)
    · refine pmSeg_U (pc' := 35) (ls' := [some (.ref 13), some (.ref v1), some (.int v2), none]) (st' := []) 0 rfl ?_
      exact L_Ju_verdict_b35 d hv1 h
    · refine pmSeg_U (pc' := 36) (ls' := [some (.ref 13), some (.ref v1), some (.int v2), none]) (st' := [.int 1]) 2 rfl ?_
      exact L_Ju_verdict_b36 d hv1 h
theorem L_Se_isAllowed_b5 {S : pmS} (d : Nat)    : ∀ (n0 : Nat) {v0 : Nat} {v2 : Int32} {v3 : Int32} {v4 : Int32} {σ τ : Mem} {z : Int32 × Mem}, isSe v0 → Se_isAllowed_b5 n0 v0 v2 v3 v4 σ = some z → pmU S (d + 4) 89 5 [some (.ref v0), some (.ref 13), some (.int v2), some (.int v3), some (.int v4)] [] (shH σ τ) (some (.int z.1)) (shH z.2 τ) := by
  intro n0
  induction n0 with
  | zero =>
    intro v0 v2 v3 v4 σ τ z hv0 h
    unfold Se_isAllowed_b5 at h
    cases h
  | succ n1 ih =>
    intro v0 v2 v3 v4 σ τ z hv0 h
    unfold Se_isAllowed_b5 at h
    refine pmSeg_U (pc' := 8) (ls' := [some (.ref v0), some (.ref 13), some (.int v2), some (.int v3), some (.int v4)]) (st' := [.ref v0, .int v4]) 2 rfl ?_
    refine pu_get rfl rfl (Se_k hv0) (shp_iX (Se_f1 hv0) (Se_lt hv0)) ?_
    refine pmSeg_U (pc' := 11) (ls' := [some (.ref v0), some (.ref 13), some (.int v2), some (.int v3), some (.int v4)]) (st' := [.int (σ v0 1), .int v4]) 0 rfl ?_
    refine pu_icmpP (tg := 53) h rfl rfl rfl (fun h => ?_) (fun h => ?_)
    · refine pmSeg_U (pc' := 54) (ls' := [some (.ref v0), some (.ref 13), some (.int v2), some (.int v3), some (.int v4)]) (st' := [.int v3]) 1 rfl ?_
      obtain ⟨g1, h⟩ := gd_in h
      cases h
      exact pu_retZ rfl rfl g1
    · refine pmSeg_U (pc' := 16) (ls' := [some (.ref v0), some (.ref 13), some (.int v2), some (.int v3), some (.int v4)]) (st' := [.ref v0, .ref 13]) 2 rfl ?_
      refine pu_get rfl rfl (Se_k hv0) (shp_R (Se_f0 hv0)) ?_
      obtain ⟨g2, h⟩ := gd_in h
      obtain ⟨g3, h⟩ := gd_in h
      refine pmSeg_U (pc' := 21) (ls' := [some (.ref v0), some (.ref 13), some (.int v2), some (.int v3), some (.int v4)]) (st' := [.int v4, .ref (v0 + 1), .ref 13]) 1 rfl ?_
      refine pu_aald rfl (Se_a1 hv0).1 g2 (shp_mX (fx_P (Se_a1 hv0)) (Se_a1 hv0).2 (po_nn g3)) ?_
      refine pmSeg_U (pc' := 23) (ls' := [some (.ref v0), some (.ref 13), some (.int v2), some (.int v3), some (.int v4)]) (st' := [.int v2, .ref (ix (σ (v0 + 1) v4.toNatClampNeg)), .ref 13]) 1 rfl ?_
      obtain ⟨q23, hq23, h⟩ := bd_in h
      refine pmU_C (av := [.ref 13, .ref (ix (σ (v0 + 1) v4.toNatClampNeg)), .int v2]) (rest := []) rfl rfl rfl rfl rfl (L_Ju_verdict (d + 0) g3 hq23) ?_
      refine pmSeg_U (pc' := 27) (ls' := [some (.ref v0), some (.ref 13), some (.int v2), some (.int v3), some (.int v4)]) (st' := [.int 1, .int q23.1]) 1 rfl ?_
      refine pu_icmpP (tg := 47) h rfl rfl rfl (fun h => ?_) (fun h => ?_)
      · refine pmSeg_U (pc' := 5) (ls' := [some (.ref v0), some (.ref 13), some (.int v2), some (.int v3), some (.int (v4 + 1))]) (st' := []) 2 rfl ?_
        exact ih hv0 h
      · refine pmSeg_U (pc' := 31) (ls' := [some (.ref v0), some (.ref 13), some (.int v2), some (.int v3), some (.int v4)]) (st' := [.ref v0]) 1 rfl ?_
        refine pu_get rfl rfl (Se_k hv0) (shp_R (Se_f0 hv0)) ?_
        obtain ⟨g4, h⟩ := gd_in h
        obtain ⟨g5, h⟩ := gd_in h
        refine pmSeg_U (pc' := 36) (ls' := [some (.ref v0), some (.ref 13), some (.int v2), some (.int v3), some (.int v4)]) (st' := [.int v4, .ref (v0 + 1)]) 1 rfl ?_
        refine pu_aald rfl (Se_a1 hv0).1 g4 (shp_mX (fx_P (Se_a1 hv0)) (Se_a1 hv0).2 (po_nn g5)) ?_
        refine pmSeg_U (pc' := 37) (ls' := [some (.ref v0), some (.ref 13), some (.int v2), some (.int v3), some (.int v4)]) (st' := [.ref (ix (q23.2 (v0 + 1) v4.toNatClampNeg))]) 0 rfl ?_
        refine pu_get rfl rfl (Po_k g5) (shp_iX (Po_f0 g5) (Po_lt g5)) ?_
        refine pmSeg_U (pc' := 40) (ls' := [some (.ref v0), some (.ref 13), some (.int v2), some (.int v3), some (.int v4)]) (st' := [.int (q23.2 (ix (q23.2 (v0 + 1) v4.toNatClampNeg)) 0)]) 0 rfl ?_
        refine pu_ifP (tg := 45) h rfl rfl rfl (fun h => ?_) (fun h => ?_)
        · refine pmSeg_U (pc' := 5) (ls' := [some (.ref v0), some (.ref 13), some (.int v2), some (.int 1), some (.int (v4 + 1))]) (st' := []) 4 rfl ?_
          exact ih hv0 h
        · refine pmSeg_U (pc' := 44) (ls' := [some (.ref v0), some (.ref 13), some (.int v2), some (.int v3), some (.int v4)]) (st' := [.int 0]) 1 rfl ?_
          cases h
          exact pmU_T rfl rfl rfl rfl rfl rfl
theorem L_Se_isAllowed {S : pmS} (d : Nat) {v0 : Nat} {v2 : Int32} {σ τ : Mem} {z : Int32 × Mem} (hv0 : isSe v0) (h : Se_isAllowed v0 v2 σ = some z) : pmX S (d + 5) 89 [.ref v0, .ref 13, .int v2] (shH σ τ) (some (.int z.1)) (shH z.2 τ) := by
  unfold Se_isAllowed at h
  refine pmU_X rfl ?_
  refine pmSeg_U (pc' := 5) (ls' := [some (.ref v0), some (.ref 13), some (.int v2), some (.int 0), some (.int 0)]) (st' := []) 4 rfl ?_
  exact L_Se_isAllowed_b5 d FU hv0 h
theorem L_Se_withVerdict_b6 {S : pmS} (d : Nat)    : ∀ (n0 : Nat) {v0 : Nat} {v2 : Int32} {v3 : Int32} {v4 : Int32} {v5 : Int32} {σ τ : Mem} {z : Int32 × Mem}, isSe v0 → Se_withVerdict_b6 n0 v0 v2 v3 v4 v5 σ = some z → pmU S (d + 4) 92 6 [some (.ref v0), some (.ref 13), some (.int v2), some (.int v3), some (.int v4), some (.int v5)] [] (shH σ τ) (some (.int z.1)) (shH z.2 τ) := by
  intro n0
  induction n0 with
  | zero =>
    intro v0 v2 v3 v4 v5 σ τ z hv0 h
    unfold Se_withVerdict_b6 at h
    cases h
  | succ n1 ih =>
    intro v0 v2 v3 v4 v5 σ τ z hv0 h
    unfold Se_withVerdict_b6 at h
    refine pmSeg_U (pc' := 9) (ls' := [some (.ref v0), some (.ref 13), some (.int v2), some (.int v3), some (.int v4), some (.int v5)]) (st' := [.ref v0, .int v5]) 2 rfl ?_
    refine pu_get rfl rfl (Se_k hv0) (shp_iX (Se_f1 hv0) (Se_lt hv0)) ?_
    refine pmSeg_U (pc' := 12) (ls' := [some (.ref v0), some (.ref 13), some (.int v2), some (.int v3), some (.int v4), some (.int v5)]) (st' := [.int (σ v0 1), .int v5]) 0 rfl ?_
    refine pu_icmpP (tg := 50) h rfl rfl rfl (fun h => ?_) (fun h => ?_)
    · refine pmSeg_U (pc' := 52) (ls' := [some (.ref v0), some (.ref 13), some (.int v2), some (.int v3), some (.int v4), some (.int v5)]) (st' := [.int v4]) 1 rfl ?_
      cases h
      exact pmU_T rfl rfl rfl rfl rfl rfl
    · refine pmSeg_U (pc' := 19) (ls' := [some (.ref v0), some (.ref 13), some (.int v2), some (.int v3), some (.int v4), some (.int v5)]) (st' := [.ref v0, .ref 13, .int v4]) 3 rfl ?_
      refine pu_get rfl rfl (Se_k hv0) (shp_R (Se_f0 hv0)) ?_
      obtain ⟨g1, h⟩ := gd_in h
      obtain ⟨g2, h⟩ := gd_in h
      refine pmSeg_U (pc' := 24) (ls' := [some (.ref v0), some (.ref 13), some (.int v2), some (.int v3), some (.int v4), some (.int v5)]) (st' := [.int v5, .ref (v0 + 1), .ref 13, .int v4]) 1 rfl ?_
      refine pu_aald rfl (Se_a1 hv0).1 g1 (shp_mX (fx_P (Se_a1 hv0)) (Se_a1 hv0).2 (po_nn g2)) ?_
      refine pmSeg_U (pc' := 26) (ls' := [some (.ref v0), some (.ref 13), some (.int v2), some (.int v3), some (.int v4), some (.int v5)]) (st' := [.int v2, .ref (ix (σ (v0 + 1) v5.toNatClampNeg)), .ref 13, .int v4]) 1 rfl ?_
      obtain ⟨q26, hq26, h⟩ := bd_in h
      refine pmU_C (av := [.ref 13, .ref (ix (σ (v0 + 1) v5.toNatClampNeg)), .int v2]) (rest := [.int v4]) rfl rfl rfl rfl rfl (L_Ju_verdict (d + 0) g2 hq26) ?_
      refine pmSeg_U (pc' := 30) (ls' := [some (.ref v0), some (.ref 13), some (.int v2), some (.int v3), some (.int v4), some (.int v5)]) (st' := [.int v3, .int q26.1, .int v4]) 1 rfl ?_
      refine pu_icmpP (tg := 40) h rfl rfl rfl (fun h => ?_) (fun h => ?_)
      · refine pmSeg_U (pc' := 6) (ls' := [some (.ref v0), some (.ref 13), some (.int v2), some (.int v3), some (.int (v4 ||| 0)), some (.int (v5 + 1))]) (st' := []) 5 rfl ?_
        exact ih hv0 h
      · refine pmSeg_U (pc' := 6) (ls' := [some (.ref v0), some (.ref 13), some (.int v2), some (.int v3), some (.int (v4 ||| (1 <<< (v5 &&& 31)))), some (.int (v5 + 1))]) (st' := []) 8 rfl ?_
        exact ih hv0 h
theorem L_Se_withVerdict {S : pmS} (d : Nat) {v0 : Nat} {v2 : Int32} {v3 : Int32} {σ τ : Mem} {z : Int32 × Mem} (hv0 : isSe v0) (h : Se_withVerdict v0 v2 v3 σ = some z) : pmX S (d + 5) 92 [.ref v0, .ref 13, .int v2, .int v3] (shH σ τ) (some (.int z.1)) (shH z.2 τ) := by
  unfold Se_withVerdict at h
  refine pmU_X rfl ?_
  refine pmSeg_U (pc' := 6) (ls' := [some (.ref v0), some (.ref 13), some (.int v2), some (.int v3), some (.int 0), some (.int 0)]) (st' := []) 4 rfl ?_
  exact L_Se_withVerdict_b6 d FU hv0 h
theorem L_Ps_ask {S : pmS} (d : Nat) {v1 : Int32} {v2 : Int32} {v3 : Int32} {σ τ : Mem} {z : Int32 × Mem}  (h : Ps_ask v1 v2 v3 σ = some z) : pmX S (d + 6) 88 [.ref 0, .int v1, .int v2, .int v3] (shH σ τ) (some (.int z.1)) (shH z.2 τ) := by
  unfold Ps_ask at h
  refine pmU_X rfl ?_
  refine pmSeg_U (pc' := 1) (ls' := [some (.ref 0), some (.int v1), some (.int v2), some (.int v3)]) (st' := [.int v1]) 1 rfl ?_
  refine pmU_C (av := [.int v1]) (rest := []) rfl rfl rfl rfl rfl (L_Ps_isSet (d + 4)) ?_
  refine pmSeg_U (pc' := 4) (ls' := [some (.ref 0), some (.int v1), some (.int v2), some (.int v3)]) (st' := [.int (Ps_isSet v1)]) 0 rfl ?_
  refine pu_ifP (tg := 18) h rfl rfl rfl (fun h => ?_) (fun h => ?_)
  · refine pmSeg_U (pc' := 20) (ls' := [some (.ref 0), some (.int v1), some (.int v2), some (.int v3)]) (st' := [.int (-2)]) 1 rfl ?_
    cases h
    exact pmU_T rfl rfl rfl rfl rfl rfl
  · refine pmSeg_U (pc' := 8) (ls' := [some (.ref 0), some (.int v1), some (.int v2), some (.int v3)]) (st' := [.int v2]) 1 rfl ?_
    refine pu_ifP (tg := 18) h rfl rfl rfl (fun h => ?_) (fun h => ?_)
    · refine pmSeg_U (pc' := 20) (ls' := [some (.ref 0), some (.int v1), some (.int v2), some (.int v3)]) (st' := [.int (-2)]) 1 rfl ?_
      cases h
      exact pmU_T rfl rfl rfl rfl rfl rfl
    · refine pmSeg_U (pc' := 15) (ls' := [some (.ref 0), some (.int v1), some (.int v2), some (.int v3)]) (st' := [.int 2048, .int v2]) 2 rfl ?_
      refine pu_icmpP (tg := 21) h rfl rfl rfl (fun h => ?_) (fun h => ?_)
      · refine pmSeg_U (pc' := 22) (ls' := [some (.ref 0), some (.int v1), some (.int v2), some (.int v3)]) (st' := [.int v3]) 1 rfl ?_
        refine br_sw h (fun e1 h => ?_) (fun e1 h => ?_)
        · refine pu_sw (v := 0) (tg := 48) e1 rfl rfl rfl ?_
          refine pmSeg_U (pc' := 50) (ls' := [some (.ref 0), some (.int v1), some (.int v2), some (.int v3)]) (st' := [.int v1, .ref 0]) 2 rfl ?_
          obtain ⟨q50, hq50, h⟩ := bd_in h
          have K50 := K_Ps_chosen hq50
          refine pmU_C (av := [.ref 0, .int v1]) (rest := []) rfl rfl rfl rfl rfl (L_Ps_chosen (d + 4) hq50) ?_
          refine pmSeg_U (pc' := 58) (ls' := [some (.ref 0), some (.int v1), some (.int v2), some (.int v3)]) (st' := [.int v2, .ref 13, .ref q50]) 3 rfl ?_
          obtain ⟨q58, hq58, h⟩ := bd_in h
          refine pmU_C (av := [.ref q50, .ref 13, .int v2]) (rest := []) rfl rfl rfl rfl (pmC_virt rfl rfl rfl (Se_k K50)) (L_Se_isAllowed (d + 0) K50 hq58) ?_
          refine pmSeg_U (pc' := 61) (ls' := [some (.ref 0), some (.int v1), some (.int v2), some (.int v3)]) (st' := [.int q58.1]) 0 rfl ?_
          refine pu_ifP (tg := 68) h rfl rfl rfl (fun h => ?_) (fun h => ?_)
          · refine pmSeg_U (pc' := 69) (ls' := [some (.ref 0), some (.int v1), some (.int v2), some (.int v3)]) (st' := [.int 0]) 1 rfl ?_
            cases h
            exact pmU_T rfl rfl rfl rfl rfl rfl
          · refine pmSeg_U (pc' := 69) (ls' := [some (.ref 0), some (.int v1), some (.int v2), some (.int v3)]) (st' := [.int 1]) 2 rfl ?_
            cases h
            exact pmU_T rfl rfl rfl rfl rfl rfl
        refine br_sw h (fun e2 h => ?_) (fun e2 h => ?_)
        · refine pu_sw (v := 1) (tg := 70) e2 rfl rfl rfl ?_
          refine pmSeg_U (pc' := 72) (ls' := [some (.ref 0), some (.int v1), some (.int v2), some (.int v3)]) (st' := [.int v1, .ref 0]) 2 rfl ?_
          obtain ⟨q72, hq72, h⟩ := bd_in h
          have K72 := K_Ps_chosen hq72
          refine pmU_C (av := [.ref 0, .int v1]) (rest := []) rfl rfl rfl rfl rfl (L_Ps_chosen (d + 4) hq72) ?_
          refine pmSeg_U (pc' := 81) (ls' := [some (.ref 0), some (.int v1), some (.int v2), some (.int v3)]) (st' := [.int 1, .int v2, .ref 13, .ref q72]) 4 rfl ?_
          obtain ⟨q81, hq81, h⟩ := bd_in h
          refine pmU_C (av := [.ref q72, .ref 13, .int v2, .int 1]) (rest := []) rfl rfl rfl rfl (pmC_virt rfl rfl rfl (Se_k K72)) (L_Se_withVerdict (d + 0) K72 hq81) ?_
          refine pmSeg_U (pc' := 84) (ls' := [some (.ref 0), some (.int v1), some (.int v2), some (.int v3)]) (st' := [.int q81.1]) 0 rfl ?_
          cases h
          exact pmU_T rfl rfl rfl rfl rfl rfl
        refine br_sw h (fun e3 h => ?_) (fun e3 h => ?_)
        · refine pu_sw (v := 2) (tg := 85) e3 rfl rfl rfl ?_
          refine pmSeg_U (pc' := 87) (ls' := [some (.ref 0), some (.int v1), some (.int v2), some (.int v3)]) (st' := [.int v1, .ref 0]) 2 rfl ?_
          obtain ⟨q87, hq87, h⟩ := bd_in h
          have K87 := K_Ps_chosen hq87
          refine pmU_C (av := [.ref 0, .int v1]) (rest := []) rfl rfl rfl rfl rfl (L_Ps_chosen (d + 4) hq87) ?_
          refine pmSeg_U (pc' := 96) (ls' := [some (.ref 0), some (.int v1), some (.int v2), some (.int v3)]) (st' := [.int 2, .int v2, .ref 13, .ref q87]) 4 rfl ?_
          obtain ⟨q96, hq96, h⟩ := bd_in h
          refine pmU_C (av := [.ref q87, .ref 13, .int v2, .int 2]) (rest := []) rfl rfl rfl rfl (pmC_virt rfl rfl rfl (Se_k K87)) (L_Se_withVerdict (d + 0) K87 hq96) ?_
          refine pmSeg_U (pc' := 99) (ls' := [some (.ref 0), some (.int v1), some (.int v2), some (.int v3)]) (st' := [.int q96.1]) 0 rfl ?_
          cases h
          exact pmU_T rfl rfl rfl rfl rfl rfl
        refine pu_tswD (tg := 100) rfl rfl ⟨Or.inr (lv_neT e1 rfl), Or.inr (lv_neT e2 rfl), Or.inr (lv_neT e3 rfl), trivial⟩ rfl ?_
        refine pmSeg_U (pc' := 102) (ls' := [some (.ref 0), some (.int v1), some (.int v2), some (.int v3)]) (st' := [.int (-2)]) 1 rfl ?_
        cases h
        exact pmU_T rfl rfl rfl rfl rfl rfl
      · refine pmSeg_U (pc' := 20) (ls' := [some (.ref 0), some (.int v1), some (.int v2), some (.int v3)]) (st' := [.int (-2)]) 1 rfl ?_
        cases h
        exact pmU_T rfl rfl rfl rfl rfl rfl
theorem L_Ps_firstBit_b2 {S : pmS} (d : Nat)    : ∀ (n0 : Nat) {v0 : Nat} {v1 : Int32} {σ τ : Mem} {z : Int32}, isA 64 v0 → Ps_firstBit_b2 n0 v0 v1 σ = some z → pmU S (d + 1) 96 2 [some (.ref v0), some (.int v1)] [] (shH σ τ) (some (.int z)) (shH σ τ) := by
  intro n0
  induction n0 with
  | zero =>
    intro v0 v1 σ τ z hv0 h
    unfold Ps_firstBit_b2 at h
    cases h
  | succ n1 ih =>
    intro v0 v1 σ τ z hv0 h
    unfold Ps_firstBit_b2 at h
    refine pmSeg_U (pc' := 4) (ls' := [some (.ref v0), some (.int v1)]) (st' := [.ref v0, .int v1]) 2 rfl ?_
    refine pu_alen rfl hv0.1 ?_
    refine pmSeg_U (pc' := 8) (ls' := [some (.ref v0), some (.int v1)]) (st' := [.int (64 * 32), .int v1]) 2 rfl ?_
    refine pu_icmpP (tg := 35) h rfl rfl rfl (fun h => ?_) (fun h => ?_)
    · refine pmSeg_U (pc' := 36) (ls' := [some (.ref v0), some (.int v1)]) (st' := [.int (-1)]) 1 rfl ?_
      cases h
      exact pmU_T rfl rfl rfl rfl rfl rfl
    · obtain ⟨g1, h⟩ := gd_in h
      refine pmSeg_U (pc' := 16) (ls' := [some (.ref v0), some (.int v1)]) (st' := [.int (v1 / 32), .ref v0]) 4 rfl ?_
      refine pu_iald rfl hv0.1 g1 (shp_iX (fx_A hv0) hv0.2) ?_
      refine pmSeg_U (pc' := 21) (ls' := [some (.ref v0), some (.int v1)]) (st' := [.int (v1 - v1 / 32 * 32), .int (σ v0 (v1 / 32).toNatClampNeg)]) 3 rfl ?_
      refine pmU_C (av := [.int (σ v0 (v1 / 32).toNatClampNeg), .int (v1 - v1 / 32 * 32)]) (rest := []) rfl rfl rfl rfl rfl (L_Ps_hasBit (d + 0)) ?_
      refine pmSeg_U (pc' := 24) (ls' := [some (.ref v0), some (.int v1)]) (st' := [.int (Ps_hasBit (σ v0 (v1 / 32).toNatClampNeg) (v1 - v1 / 32 * 32))]) 0 rfl ?_
      refine pu_ifP (tg := 29) h rfl rfl rfl (fun h => ?_) (fun h => ?_)
      · refine pmSeg_U (pc' := 2) (ls' := [some (.ref v0), some (.int (v1 + 1))]) (st' := []) 2 rfl ?_
        exact ih hv0 h
      · refine pmSeg_U (pc' := 28) (ls' := [some (.ref v0), some (.int v1)]) (st' := [.int v1]) 1 rfl ?_
        cases h
        exact pmU_T rfl rfl rfl rfl rfl rfl
theorem L_Ps_firstBit {S : pmS} (d : Nat) {v0 : Nat} {σ τ : Mem} {z : Int32} (hv0 : isA 64 v0) (h : Ps_firstBit v0 σ = some z) : pmX S (d + 2) 96 [.ref v0] (shH σ τ) (some (.int z)) (shH σ τ) := by
  unfold Ps_firstBit at h
  refine pmU_X rfl ?_
  refine pmSeg_U (pc' := 2) (ls' := [some (.ref v0), some (.int 0)]) (st' := []) 2 rfl ?_
  exact L_Ps_firstBit_b2 d FU hv0 h
theorem L_Ps_lastBit_b8 {S : pmS} (d : Nat)    : ∀ (n0 : Nat) {v0 : Nat} {v1 : Int32} {σ τ : Mem} {z : Int32}, isA 64 v0 → Ps_lastBit_b8 n0 v0 v1 σ = some z → pmU S (d + 1) 97 8 [some (.ref v0), some (.int v1)] [] (shH σ τ) (some (.int z)) (shH σ τ) := by
  intro n0
  induction n0 with
  | zero =>
    intro v0 v1 σ τ z hv0 h
    unfold Ps_lastBit_b8 at h
    cases h
  | succ n1 ih =>
    intro v0 v1 σ τ z hv0 h
    unfold Ps_lastBit_b8 at h
    refine pmSeg_U (pc' := 9) (ls' := [some (.ref v0), some (.int v1)]) (st' := [.int v1]) 1 rfl ?_
    refine pu_ifP (tg := 36) h rfl rfl rfl (fun h => ?_) (fun h => ?_)
    · refine pmSeg_U (pc' := 37) (ls' := [some (.ref v0), some (.int v1)]) (st' := [.int (-1)]) 1 rfl ?_
      cases h
      exact pmU_T rfl rfl rfl rfl rfl rfl
    · obtain ⟨g1, h⟩ := gd_in h
      refine pmSeg_U (pc' := 17) (ls' := [some (.ref v0), some (.int v1)]) (st' := [.int (v1 / 32), .ref v0]) 4 rfl ?_
      refine pu_iald rfl hv0.1 g1 (shp_iX (fx_A hv0) hv0.2) ?_
      refine pmSeg_U (pc' := 22) (ls' := [some (.ref v0), some (.int v1)]) (st' := [.int (v1 - v1 / 32 * 32), .int (σ v0 (v1 / 32).toNatClampNeg)]) 3 rfl ?_
      refine pmU_C (av := [.int (σ v0 (v1 / 32).toNatClampNeg), .int (v1 - v1 / 32 * 32)]) (rest := []) rfl rfl rfl rfl rfl (L_Ps_hasBit (d + 0)) ?_
      refine pmSeg_U (pc' := 25) (ls' := [some (.ref v0), some (.int v1)]) (st' := [.int (Ps_hasBit (σ v0 (v1 / 32).toNatClampNeg) (v1 - v1 / 32 * 32))]) 0 rfl ?_
      refine pu_ifP (tg := 30) h rfl rfl rfl (fun h => ?_) (fun h => ?_)
      · refine pmSeg_U (pc' := 8) (ls' := [some (.ref v0), some (.int (v1 + (-1)))]) (st' := []) 2 rfl ?_
        exact ih hv0 h
      · refine pmSeg_U (pc' := 29) (ls' := [some (.ref v0), some (.int v1)]) (st' := [.int v1]) 1 rfl ?_
        cases h
        exact pmU_T rfl rfl rfl rfl rfl rfl
theorem L_Ps_lastBit {S : pmS} (d : Nat) {v0 : Nat} {σ τ : Mem} {z : Int32} (hv0 : isA 64 v0) (h : Ps_lastBit v0 σ = some z) : pmX S (d + 2) 97 [.ref v0] (shH σ τ) (some (.int z)) (shH σ τ) := by
  unfold Ps_lastBit at h
  refine pmU_X rfl ?_
  refine pmSeg_U (pc' := 1) (ls' := [some (.ref v0), none]) (st' := [.ref v0]) 1 rfl ?_
  refine pu_alen rfl hv0.1 ?_
  refine pmSeg_U (pc' := 8) (ls' := [some (.ref v0), some (.int ((64 * 32) - 1))]) (st' := []) 5 rfl ?_
  exact L_Ps_lastBit_b8 d FU hv0 h
theorem L_Se_allowedBits_b39 {S : pmS} (d : Nat)   {k8 : Nat → Int32 → Int32 → Int32 → Int32 → Int32 → Mem → Option Int32} (Hk8 : ∀ {v0 : Nat} {v1 : Int32} {v2 : Int32} {v3 : Int32} {v4 : Int32} {v5 : Int32} {σ τ : Mem} {z : Int32}, isSe v0 → k8 v0 v1 v2 v3 v4 v5 σ = some z → pmU S (d + 0) 95 8 [some (.ref v0), some (.int v1), some (.int v2), some (.int v3), some (.int v4), some (.int v5), none] [] (shH σ τ) (some (.int z)) (shH σ τ)) {v0 : Nat} {v1 : Int32} {v2 : Int32} {v3 : Int32} {v4 : Int32} {v5 : Int32} {s0 : Int32} {σ τ : Mem} {z : Int32} (hv0 : isSe v0) (h : Se_allowedBits_b39 k8 v0 v1 v2 v3 v4 v5 s0 σ = some z) : pmU S (d + 0) 95 39 [some (.ref v0), some (.int v1), some (.int v2), some (.int v3), some (.int v4), some (.int v5), none] [.int s0] (shH σ τ) (some (.int z)) (shH σ τ) := by
  unfold Se_allowedBits_b39 at h
  refine pmSeg_U (pc' := 42) (ls' := [some (.ref v0), some (.int v1), some (.int v2), some (.int v3), some (.int v4), some (.int v5), some (.int s0)]) (st' := [.ref v0]) 2 rfl ?_
  refine pu_get rfl rfl (Se_k hv0) (shp_R (Se_f0 hv0)) ?_
  obtain ⟨g1, h⟩ := gd_in h
  obtain ⟨g2, h⟩ := gd_in h
  refine pmSeg_U (pc' := 47) (ls' := [some (.ref v0), some (.int v1), some (.int v2), some (.int v3), some (.int v4), some (.int v5), some (.int s0)]) (st' := [.int v5, .ref (v0 + 1)]) 1 rfl ?_
  refine pu_aald rfl (Se_a1 hv0).1 g1 (shp_mX (fx_P (Se_a1 hv0)) (Se_a1 hv0).2 (po_nn g2)) ?_
  refine pmSeg_U (pc' := 48) (ls' := [some (.ref v0), some (.int v1), some (.int v2), some (.int v3), some (.int v4), some (.int v5), some (.int s0)]) (st' := [.ref (ix (σ (v0 + 1) v5.toNatClampNeg))]) 0 rfl ?_
  refine pu_get rfl rfl (Po_k g2) (shp_iX (Po_f0 g2) (Po_lt g2)) ?_
  refine pmSeg_U (pc' := 51) (ls' := [some (.ref v0), some (.int v1), some (.int v2), some (.int v3), some (.int v4), some (.int v5), some (.int s0)]) (st' := [.int (σ (ix (σ (v0 + 1) v5.toNatClampNeg)) 0)]) 0 rfl ?_
  refine pu_ifP (tg := 62) h rfl rfl rfl (fun h => ?_) (fun h => ?_)
  · refine pmSeg_U (pc' := 8) (ls' := [some (.ref v0), some (.int v1), some (.int v2), some (.int v3), some (.int (v4 ||| s0)), some (.int (v5 + 1)), some (.int s0)]) (st' := []) 6 rfl ?_
    refine pmU_le (a := [some (.ref v0), some (.int v1), some (.int v2), some (.int v3), some (.int (v4 ||| s0)), some (.int (v5 + 1)), none]) (le_s (le_s (le_s (le_s (le_s (le_s (le_v rfl le_nil))))))) ?_
    exact Hk8 hv0 h
  · refine pmSeg_U (pc' := 8) (ls' := [some (.ref v0), some (.int v1), some (.int v2), some (.int (v3 ||| s0)), some (.int v4), some (.int (v5 + 1)), some (.int s0)]) (st' := []) 7 rfl ?_
    refine pmU_le (a := [some (.ref v0), some (.int v1), some (.int v2), some (.int (v3 ||| s0)), some (.int v4), some (.int (v5 + 1)), none]) (le_s (le_s (le_s (le_s (le_s (le_s (le_v rfl le_nil))))))) ?_
    exact Hk8 hv0 h
theorem L_Se_allowedBits_b8 {S : pmS} (d : Nat)    : ∀ (n0 : Nat) {v0 : Nat} {v1 : Int32} {v2 : Int32} {v3 : Int32} {v4 : Int32} {v5 : Int32} {σ τ : Mem} {z : Int32}, isSe v0 → Se_allowedBits_b8 n0 v0 v1 v2 v3 v4 v5 σ = some z → pmU S (d + 0) 95 8 [some (.ref v0), some (.int v1), some (.int v2), some (.int v3), some (.int v4), some (.int v5), none] [] (shH σ τ) (some (.int z)) (shH σ τ) := by
  intro n0
  induction n0 with
  | zero =>
    intro v0 v1 v2 v3 v4 v5 σ τ z hv0 h
    unfold Se_allowedBits_b8 at h
    cases h
  | succ n1 ih =>
    intro v0 v1 v2 v3 v4 v5 σ τ z hv0 h
    unfold Se_allowedBits_b8 at h
    refine pmSeg_U (pc' := 11) (ls' := [some (.ref v0), some (.int v1), some (.int v2), some (.int v3), some (.int v4), some (.int v5), none]) (st' := [.ref v0, .int v5]) 2 rfl ?_
    refine pu_get rfl rfl (Se_k hv0) (shp_iX (Se_f1 hv0) (Se_lt hv0)) ?_
    refine pmSeg_U (pc' := 14) (ls' := [some (.ref v0), some (.int v1), some (.int v2), some (.int v3), some (.int v4), some (.int v5), none]) (st' := [.int (σ v0 1), .int v5]) 0 rfl ?_
    refine pu_icmpP (tg := 75) h rfl rfl rfl (fun h => ?_) (fun h => ?_)
    · refine pmSeg_U (pc' := 81) (ls' := [some (.ref v0), some (.int v1), some (.int v2), some (.int v3), some (.int v4), some (.int v5), none]) (st' := [.int (v3 &&& (v4 ^^^ (-1)))]) 5 rfl ?_
      cases h
      exact pmU_T rfl rfl rfl rfl rfl rfl
    · refine pmSeg_U (pc' := 20) (ls' := [some (.ref v0), some (.int v1), some (.int v2), some (.int v3), some (.int v4), some (.int v5), none]) (st' := [.int v2, .int v5]) 2 rfl ?_
      refine pu_icmpP (tg := 27) h rfl rfl rfl (fun h => ?_) (fun h => ?_)
      · refine pmSeg_U (pc' := 28) (ls' := [some (.ref v0), some (.int v1), some (.int v2), some (.int v3), some (.int v4), some (.int v5), none]) (st' := [.ref v0]) 1 rfl ?_
        refine pu_get rfl rfl (Se_k hv0) (shp_R (Se_f0 hv0)) ?_
        obtain ⟨g1, h⟩ := gd_in h
        obtain ⟨g2, h⟩ := gd_in h
        refine pmSeg_U (pc' := 33) (ls' := [some (.ref v0), some (.int v1), some (.int v2), some (.int v3), some (.int v4), some (.int v5), none]) (st' := [.int v5, .ref (v0 + 1)]) 1 rfl ?_
        refine pu_aald rfl (Se_a1 hv0).1 g1 (shp_mX (fx_P (Se_a1 hv0)) (Se_a1 hv0).2 (po_nn g2)) ?_
        refine pmSeg_U (pc' := 34) (ls' := [some (.ref v0), some (.int v1), some (.int v2), some (.int v3), some (.int v4), some (.int v5), none]) (st' := [.ref (ix (σ (v0 + 1) v5.toNatClampNeg))]) 0 rfl ?_
        refine pu_get rfl rfl (Po_k g2) (shp_R (Po_f10 g2)) ?_
        obtain ⟨g3, h⟩ := gd_in h
        refine pmSeg_U (pc' := 38) (ls' := [some (.ref v0), some (.int v1), some (.int v2), some (.int v3), some (.int v4), some (.int v5), none]) (st' := [.int v1, .ref ((ix (σ (v0 + 1) v5.toNatClampNeg)) + 3)]) 1 rfl ?_
        refine pu_iald rfl (Po_a3 g2).1 g3 (shp_iX (fx_A (Po_a3 g2)) (Po_a3 g2).2) ?_
        refine pmSeg_U (pc' := 39) (ls' := [some (.ref v0), some (.int v1), some (.int v2), some (.int v3), some (.int v4), some (.int v5), none]) (st' := [.int (σ ((ix (σ (v0 + 1) v5.toNatClampNeg)) + 3) v1.toNatClampNeg)]) 0 rfl ?_
        exact L_Se_allowedBits_b39 d ih hv0 h
      · refine pmSeg_U (pc' := 39) (ls' := [some (.ref v0), some (.int v1), some (.int v2), some (.int v3), some (.int v4), some (.int v5), none]) (st' := [.int 0]) 2 rfl ?_
        exact L_Se_allowedBits_b39 d ih hv0 h
theorem L_Se_allowedBits {S : pmS} (d : Nat) {v0 : Nat} {v1 : Int32} {v2 : Int32} {σ τ : Mem} {z : Int32} (hv0 : isSe v0) (h : Se_allowedBits v0 v1 v2 σ = some z) : pmX S (d + 1) 95 [.ref v0, .int v1, .int v2] (shH σ τ) (some (.int z)) (shH σ τ) := by
  unfold Se_allowedBits at h
  refine pmU_X rfl ?_
  refine pmSeg_U (pc' := 8) (ls' := [some (.ref v0), some (.int v1), some (.int v2), some (.int 0), some (.int 0), some (.int 0), none]) (st' := []) 6 rfl ?_
  exact L_Se_allowedBits_b8 d FU hv0 h
theorem L_Se_survey_b2 {S : pmS} (d : Nat)    : ∀ (n0 : Nat) {v0 : Nat} {v2 : Int32} {σ τ : Mem} {z : Mem}, isSe v0 → Se_survey_b2 n0 v0 v2 σ = some z → pmU S (d + 5) 94 2 [some (.ref v0), some (.ref 13), some (.int v2)] [] (shH σ τ) none (shH z τ) := by
  intro n0
  induction n0 with
  | zero =>
    intro v0 v2 σ τ z hv0 h
    unfold Se_survey_b2 at h
    cases h
  | succ n1 ih =>
    intro v0 v2 σ τ z hv0 h
    unfold Se_survey_b2 at h
    refine pmSeg_U (pc' := 4) (ls' := [some (.ref v0), some (.ref 13), some (.int v2)]) (st' := [.ref v0, .int v2]) 2 rfl ?_
    refine pu_get rfl rfl (Se_k hv0) (shp_iX (Se_f1 hv0) (Se_lt hv0)) ?_
    refine pmSeg_U (pc' := 7) (ls' := [some (.ref v0), some (.ref 13), some (.int v2)]) (st' := [.int (σ v0 1), .int v2]) 0 rfl ?_
    refine pu_icmpP (tg := 26) h rfl rfl rfl (fun h => ?_) (fun h => ?_)
    · refine pmSeg_U (pc' := 26) (ls' := [some (.ref v0), some (.ref 13), some (.int v2)]) (st' := []) 0 rfl ?_
      cases h
      exact pmU_T rfl rfl rfl rfl rfl rfl
    · refine pmSeg_U (pc' := 12) (ls' := [some (.ref v0), some (.ref 13), some (.int v2)]) (st' := [.ref v0, .ref 13]) 2 rfl ?_
      refine pu_get rfl rfl (Se_k hv0) (shp_R (Se_f0 hv0)) ?_
      obtain ⟨g1, h⟩ := gd_in h
      obtain ⟨g2, h⟩ := gd_in h
      refine pmSeg_U (pc' := 16) (ls' := [some (.ref v0), some (.ref 13), some (.int v2)]) (st' := [.int v2, .ref (v0 + 1), .ref 13]) 1 rfl ?_
      refine pu_aald rfl (Se_a1 hv0).1 g1 (shp_mX (fx_P (Se_a1 hv0)) (Se_a1 hv0).2 (po_nn g2)) ?_
      refine pmSeg_U (pc' := 17) (ls' := [some (.ref v0), some (.ref 13), some (.int v2)]) (st' := [.ref (ix (σ (v0 + 1) v2.toNatClampNeg)), .ref 13]) 0 rfl ?_
      obtain ⟨q17, hq17, h⟩ := bd_in h
      refine pmU_C (av := [.ref 13, .ref (ix (σ (v0 + 1) v2.toNatClampNeg))]) (rest := []) rfl rfl rfl rfl rfl (L_Ju_survey (d + 0) g2 hq17) ?_
      refine pmSeg_U (pc' := 2) (ls' := [some (.ref v0), some (.ref 13), some (.int (v2 + 1))]) (st' := []) 2 rfl ?_
      exact ih hv0 h
theorem L_Se_survey {S : pmS} (d : Nat) {v0 : Nat} {σ τ : Mem} {z : Mem} (hv0 : isSe v0) (h : Se_survey v0 σ = some z) : pmX S (d + 6) 94 [.ref v0, .ref 13] (shH σ τ) none (shH z τ) := by
  unfold Se_survey at h
  refine pmU_X rfl ?_
  refine pmSeg_U (pc' := 2) (ls' := [some (.ref v0), some (.ref 13), some (.int 0)]) (st' := []) 2 rfl ?_
  exact L_Se_survey_b2 d FU hv0 h
theorem L_Ps_allows_b36 {S : pmS} (d : Nat)    : ∀ (n0 : Nat) {v2 : Int32} {v3 : Nat} {v4 : Int32} {σ τ : Mem} {z : Int32 × Mem}, isSe v3 → Ps_allows_b36 n0 v2 v3 v4 σ = some z → pmU S (d + 6) 93 36 [some (.ref 0), none, some (.int v2), some (.ref v3), some (.int v4)] [] (shH σ τ) (some (.int z.1)) (shH z.2 τ) := by
  intro n0
  induction n0 with
  | zero =>
    intro v2 v3 v4 σ τ z hv3 h
    unfold Ps_allows_b36 at h
    cases h
  | succ n1 ih =>
    intro v2 v3 v4 σ τ z hv3 h
    unfold Ps_allows_b36 at h
    refine pmSeg_U (pc' := 40) (ls' := [some (.ref 0), none, some (.int v2), some (.ref v3), some (.int v4)]) (st' := [.int 64, .int v4]) 2 rfl ?_
    refine pu_icmpP (tg := 63) h rfl rfl rfl (fun h => ?_) (fun h => ?_)
    · refine pmSeg_U (pc' := 64) (ls' := [some (.ref 0), none, some (.int v2), some (.ref v3), some (.int v4)]) (st' := [.int v2]) 1 rfl ?_
      refine pu_ifP (tg := 75) h rfl rfl rfl (fun h => ?_) (fun h => ?_)
      · refine pmSeg_U (pc' := 77) (ls' := [some (.ref 0), none, some (.int v2), some (.ref v3), some (.int v4)]) (st' := [.int 1, .int v2]) 2 rfl ?_
        refine pu_icmpP (tg := 90) h rfl rfl rfl (fun h => ?_) (fun h => ?_)
        · refine pmSeg_U (pc' := 94) (ls' := [some (.ref 0), none, some (.int v2), some (.ref v3), some (.int v4)]) (st' := [.ref 111]) 2 rfl ?_
          obtain ⟨q94, hq94, h⟩ := bd_in h
          refine pmU_C (av := [.ref 111]) (rest := []) rfl rfl rfl rfl rfl (L_Ps_lastBit (d + 4) ⟨rfl, by decide⟩ hq94) ?_
          refine pmSeg_U (pc' := 97) (ls' := [some (.ref 0), none, some (.int v2), some (.ref v3), some (.int v4)]) (st' := [.int q94]) 0 rfl ?_
          cases h
          exact pmU_T rfl rfl rfl rfl rfl rfl
        · refine pmSeg_U (pc' := 84) (ls' := [some (.ref 0), none, some (.int v2), some (.ref v3), some (.int v4)]) (st' := [.ref 111]) 2 rfl ?_
          obtain ⟨q84, hq84, h⟩ := bd_in h
          refine pmU_C (av := [.ref 111]) (rest := []) rfl rfl rfl rfl rfl (L_Ps_firstBit (d + 4) ⟨rfl, by decide⟩ hq84) ?_
          refine pmSeg_U (pc' := 97) (ls' := [some (.ref 0), none, some (.int v2), some (.ref v3), some (.int v4)]) (st' := [.int q84]) 1 rfl ?_
          cases h
          exact pmU_T rfl rfl rfl rfl rfl rfl
      · refine pmSeg_U (pc' := 71) (ls' := [some (.ref 0), none, some (.int v2), some (.ref v3), some (.int v4)]) (st' := [.ref 111]) 2 rfl ?_
        obtain ⟨q71, hq71, h⟩ := bd_in h
        refine pmU_C (av := [.ref 111]) (rest := []) rfl rfl rfl rfl rfl (L_Ps_countBits (d + 4) ⟨rfl, by decide⟩ hq71) ?_
        refine pmSeg_U (pc' := 74) (ls' := [some (.ref 0), none, some (.int v2), some (.ref v3), some (.int v4)]) (st' := [.int q71]) 0 rfl ?_
        cases h
        exact pmU_T rfl rfl rfl rfl rfl rfl
    · refine pmSeg_U (pc' := 53) (ls' := [some (.ref 0), none, some (.int v2), some (.ref v3), some (.int v4)]) (st' := [.int (-1), .int v4, .ref v3, .int v4, .ref 111]) 6 rfl ?_
      obtain ⟨q53, hq53, h⟩ := bd_in h
      refine pmU_C (av := [.ref v3, .int v4, .int (-1)]) (rest := [.int v4, .ref 111]) rfl rfl rfl rfl (pmC_virt rfl rfl rfl (Se_k hv3)) (L_Se_allowedBits (d + 5) hv3 hq53) ?_
      obtain ⟨g1, h⟩ := gd_in h
      refine pmSeg_U (pc' := 56) (ls' := [some (.ref 0), none, some (.int v2), some (.ref v3), some (.int v4)]) (st' := [.int q53, .int v4, .ref 111]) 0 rfl ?_
      refine pu_iast rfl rfl g1 (shp_pX rfl (by decide)) ?_
      refine pmSeg_U (pc' := 36) (ls' := [some (.ref 0), none, some (.int v2), some (.ref v3), some (.int (v4 + 1))]) (st' := []) 2 rfl ?_
      exact ih hv3 h
theorem L_Ps_allows {S : pmS} (d : Nat) {v1 : Int32} {v2 : Int32} {σ τ : Mem} {z : Int32 × Mem}  (h : Ps_allows v1 v2 σ = some z) : pmX S (d + 7) 93 [.ref 0, .int v1, .int v2] (shH σ τ) (some (.int z.1)) (shH z.2 τ) := by
  unfold Ps_allows at h
  refine pmU_X rfl ?_
  refine pmSeg_U (pc' := 1) (ls' := [some (.ref 0), some (.int v1), some (.int v2), none, none]) (st' := [.int v1]) 1 rfl ?_
  refine pmU_C (av := [.int v1]) (rest := []) rfl rfl rfl rfl rfl (L_Ps_isSet (d + 5)) ?_
  refine pmSeg_U (pc' := 4) (ls' := [some (.ref 0), some (.int v1), some (.int v2), none, none]) (st' := [.int (Ps_isSet v1)]) 0 rfl ?_
  refine pu_ifP (tg := 16) h rfl rfl rfl (fun h => ?_) (fun h => ?_)
  · refine pmSeg_U (pc' := 18) (ls' := [some (.ref 0), some (.int v1), some (.int v2), none, none]) (st' := [.int (-2)]) 1 rfl ?_
    cases h
    exact pmU_T rfl rfl rfl rfl rfl rfl
  · refine pmSeg_U (pc' := 8) (ls' := [some (.ref 0), some (.int v1), some (.int v2), none, none]) (st' := [.int v2]) 1 rfl ?_
    refine pu_ifP (tg := 16) h rfl rfl rfl (fun h => ?_) (fun h => ?_)
    · refine pmSeg_U (pc' := 18) (ls' := [some (.ref 0), some (.int v1), some (.int v2), none, none]) (st' := [.int (-2)]) 1 rfl ?_
      cases h
      exact pmU_T rfl rfl rfl rfl rfl rfl
    · refine pmSeg_U (pc' := 13) (ls' := [some (.ref 0), some (.int v1), some (.int v2), none, none]) (st' := [.int 2, .int v2]) 2 rfl ?_
      refine pu_icmpP (tg := 19) h rfl rfl rfl (fun h => ?_) (fun h => ?_)
      · refine pmSeg_U (pc' := 21) (ls' := [some (.ref 0), some (.int v1), some (.int v2), none, none]) (st' := [.int v1, .ref 0]) 2 rfl ?_
        obtain ⟨q21, hq21, h⟩ := bd_in h
        have K21 := K_Ps_chosen hq21
        refine pmU_C (av := [.ref 0, .int v1]) (rest := []) rfl rfl rfl rfl rfl (L_Ps_chosen (d + 5) hq21) ?_
        refine pmSeg_U (pc' := 30) (ls' := [some (.ref 0), some (.int v1), some (.int v2), some (.ref q21), none]) (st' := [.ref 13, .ref q21]) 4 rfl ?_
        obtain ⟨q30, hq30, h⟩ := bd_in h
        refine pmU_C (av := [.ref q21, .ref 13]) (rest := []) rfl rfl rfl rfl (pmC_virt rfl rfl rfl (Se_k K21)) (L_Se_survey (d + 0) K21 hq30) ?_
        refine pmSeg_U (pc' := 36) (ls' := [some (.ref 0), some (.int v1), some (.int v2), some (.ref q21), some (.int 0)]) (st' := []) 2 rfl ?_
        refine pmU_le (a := [some (.ref 0), none, some (.int v2), some (.ref q21), some (.int 0)]) (le_s (le_v rfl (le_s (le_s (le_s le_nil))))) ?_
        exact L_Ps_allows_b36 d FU K21 h
      · refine pmSeg_U (pc' := 18) (ls' := [some (.ref 0), some (.int v1), some (.int v2), none, none]) (st' := [.int (-2)]) 1 rfl ?_
        cases h
        exact pmU_T rfl rfl rfl rfl rfl rfl
theorem L_Ps_difference' {S : pmS} (d : Nat) {v0 : Int32} {v1 : Int32} {v2 : Int32} {h0 : pmH} {z : Int32} (h : Ps_difference v0 v1 v2 = z) : pmX S (d + 1) 99 [.int v0, .int v1, .int v2] h0 (some (.int z)) h0 := by
  unfold Ps_difference at h
  refine pmU_X rfl ?_
  refine pmSeg_U (pc' := 1) (ls' := [some (.int v0), some (.int v1), some (.int v2)]) (st' := [.int v2]) 1 rfl ?_
  refine pu_ifP (tg := 10) h rfl rfl rfl (fun h => ?_) (fun h => ?_)
  · refine pmSeg_U (pc' := 12) (ls' := [some (.int v0), some (.int v1), some (.int v2)]) (st' := [.int 1, .int v2]) 2 rfl ?_
    refine pu_icmpP (tg := 23) h rfl rfl rfl (fun h => ?_) (fun h => ?_)
    · refine pmSeg_U (pc' := 26) (ls' := [some (.int v0), some (.int v1), some (.int v2)]) (st' := [.int (v0 ^^^ v1)]) 3 rfl ?_
      cases h
      exact pmU_T rfl rfl rfl rfl rfl rfl
    · refine pmSeg_U (pc' := 26) (ls' := [some (.int v0), some (.int v1), some (.int v2)]) (st' := [.int (v1 &&& (v0 ^^^ (-1)))]) 6 rfl ?_
      cases h
      exact pmU_T rfl rfl rfl rfl rfl rfl
  · refine pmSeg_U (pc' := 9) (ls' := [some (.int v0), some (.int v1), some (.int v2)]) (st' := [.int (v0 &&& (v1 ^^^ (-1)))]) 5 rfl ?_
    cases h
    exact pmU_T rfl rfl rfl rfl rfl rfl
theorem L_Ps_difference {S : pmS} (d : Nat) {v0 : Int32} {v1 : Int32} {v2 : Int32} {h0 : pmH} : pmX S (d + 1) 99 [.int v0, .int v1, .int v2] h0 (some (.int (Ps_difference v0 v1 v2))) h0 := L_Ps_difference' d rfl
theorem L_Ps_compare_b36 {S : pmS} (d : Nat)    : ∀ (n0 : Nat) {v1 : Int32} {v2 : Int32} {σ τ : Mem} {z : Int32 × Mem}, Ps_compare_b36 n0 v1 v2 σ = some z → pmU S (d + 6) 98 36 [some (.ref 0), some (.int v1), some (.int v2)] [] (shH σ τ) (some (.int z.1)) (shH z.2 τ) := by
  intro n0
  induction n0 with
  | zero =>
    intro v1 v2 σ τ z  h
    unfold Ps_compare_b36 at h
    cases h
  | succ n1 ih =>
    intro v1 v2 σ τ z  h
    unfold Ps_compare_b36 at h
    refine pmSeg_U (pc' := 39) (ls' := [some (.ref 0), some (.int v1), some (.int v2)]) (st' := [.int 64, .int v2]) 2 rfl ?_
    refine pu_icmpP (tg := 76) h rfl rfl rfl (fun h => ?_) (fun h => ?_)
    · refine pmSeg_U (pc' := 78) (ls' := [some (.ref 0), some (.int v1), some (.int v2)]) (st' := [.int 2, .int v1]) 2 rfl ?_
      refine pu_icmpP (tg := 91) h rfl rfl rfl (fun h => ?_) (fun h => ?_)
      · refine pmSeg_U (pc' := 95) (ls' := [some (.ref 0), some (.int v1), some (.int v2)]) (st' := [.ref 111]) 2 rfl ?_
        obtain ⟨q95, hq95, h⟩ := bd_in h
        refine pmU_C (av := [.ref 111]) (rest := []) rfl rfl rfl rfl rfl (L_Ps_countBits (d + 4) ⟨rfl, by decide⟩ hq95) ?_
        refine pmSeg_U (pc' := 98) (ls' := [some (.ref 0), some (.int v1), some (.int v2)]) (st' := [.int q95]) 0 rfl ?_
        cases h
        exact pmU_T rfl rfl rfl rfl rfl rfl
      · refine pmSeg_U (pc' := 85) (ls' := [some (.ref 0), some (.int v1), some (.int v2)]) (st' := [.ref 111]) 2 rfl ?_
        obtain ⟨q85, hq85, h⟩ := bd_in h
        refine pmU_C (av := [.ref 111]) (rest := []) rfl rfl rfl rfl rfl (L_Ps_firstBit (d + 4) ⟨rfl, by decide⟩ hq85) ?_
        refine pmSeg_U (pc' := 98) (ls' := [some (.ref 0), some (.int v1), some (.int v2)]) (st' := [.int q85]) 1 rfl ?_
        cases h
        exact pmU_T rfl rfl rfl rfl rfl rfl
    · refine pmSeg_U (pc' := 53) (ls' := [some (.ref 0), some (.int v1), some (.int v2)]) (st' := [.int (-1), .int v2, .ref 17, .int v2, .ref 111]) 7 rfl ?_
      obtain ⟨q53, hq53, h⟩ := bd_in h
      refine pmU_C (av := [.ref 17, .int v2, .int (-1)]) (rest := [.int v2, .ref 111]) rfl rfl rfl rfl rfl (L_Se_allowedBits (d + 5) (by decide) hq53) ?_
      refine pmSeg_U (pc' := 62) (ls' := [some (.ref 0), some (.int v1), some (.int v2)]) (st' := [.int (-1), .int v2, .ref 64, .int q53, .int v2, .ref 111]) 4 rfl ?_
      obtain ⟨q62, hq62, h⟩ := bd_in h
      refine pmU_C (av := [.ref 64, .int v2, .int (-1)]) (rest := [.int q53, .int v2, .ref 111]) rfl rfl rfl rfl rfl (L_Se_allowedBits (d + 5) (by decide) hq62) ?_
      refine pmSeg_U (pc' := 66) (ls' := [some (.ref 0), some (.int v1), some (.int v2)]) (st' := [.int v1, .int q62, .int q53, .int v2, .ref 111]) 1 rfl ?_
      refine pmU_C (av := [.int q53, .int q62, .int v1]) (rest := [.int v2, .ref 111]) rfl rfl rfl rfl rfl (L_Ps_difference (d + 5)) ?_
      obtain ⟨g1, h⟩ := gd_in h
      refine pmSeg_U (pc' := 69) (ls' := [some (.ref 0), some (.int v1), some (.int v2)]) (st' := [.int (Ps_difference q53 q62 v1), .int v2, .ref 111]) 0 rfl ?_
      refine pu_iast rfl rfl g1 (shp_pX rfl (by decide)) ?_
      refine pmSeg_U (pc' := 36) (ls' := [some (.ref 0), some (.int v1), some (.int (v2 + 1))]) (st' := []) 2 rfl ?_
      exact ih h
