theorem L_Ps_isPolicy {S : pmS} (d : Nat) {v1 : Int32} {v2 : Int32} {σ τ : Mem} {z : Int32}  (h : Ps_isPolicy v1 v2 σ = some z) : pmX S (d + 2) 69 [.ref 0, .int v1, .int v2] (shH σ τ) (some (.int z)) (shH σ τ) := by
  unfold Ps_isPolicy at h
  refine pmU_X rfl ?_
  refine pmSeg_U (pc' := 1) (ls' := [some (.ref 0), some (.int v1), some (.int v2)]) (st' := [.int v1]) 1 rfl ?_
  refine pmU_C (av := [.int v1]) (rest := []) rfl rfl rfl rfl rfl (L_Ps_isSet (d + 0)) ?_
  refine pmSeg_U (pc' := 4) (ls' := [some (.ref 0), some (.int v1), some (.int v2)]) (st' := [.int (Ps_isSet v1)]) 0 rfl ?_
  refine pu_ifP (tg := 27) h rfl rfl rfl (fun h => ?_) (fun h => ?_)
  · refine pmSeg_U (pc' := 28) (ls' := [some (.ref 0), some (.int v1), some (.int v2)]) (st' := [.int 0]) 1 rfl ?_
    cases h
    exact pmU_T rfl rfl rfl rfl rfl rfl
  · refine pmSeg_U (pc' := 8) (ls' := [some (.ref 0), some (.int v1), some (.int v2)]) (st' := [.int v2]) 1 rfl ?_
    refine pu_ifP (tg := 27) h rfl rfl rfl (fun h => ?_) (fun h => ?_)
    · refine pmSeg_U (pc' := 28) (ls' := [some (.ref 0), some (.int v1), some (.int v2)]) (st' := [.int 0]) 1 rfl ?_
      cases h
      exact pmU_T rfl rfl rfl rfl rfl rfl
    · refine pmSeg_U (pc' := 14) (ls' := [some (.ref 0), some (.int v1), some (.int v2)]) (st' := [.int v1, .ref 0, .int v2]) 3 rfl ?_
      obtain ⟨q14, hq14, h⟩ := bd_in h
      have K14 := K_Ps_chosen hq14
      refine pmU_C (av := [.ref 0, .int v1]) (rest := [.int v2]) rfl rfl rfl rfl rfl (L_Ps_chosen (d + 0) hq14) ?_
      refine pmSeg_U (pc' := 17) (ls' := [some (.ref 0), some (.int v1), some (.int v2)]) (st' := [.ref q14, .int v2]) 0 rfl ?_
      obtain ⟨q17, hq17, h⟩ := bd_in h
      refine pmU_C (av := [.ref q14]) (rest := [.int v2]) rfl rfl rfl rfl (pmC_virt rfl rfl rfl (Se_k K14)) (L_Se_count (d + 0) K14 hq17) ?_
      refine pmSeg_U (pc' := 20) (ls' := [some (.ref 0), some (.int v1), some (.int v2)]) (st' := [.int q17, .int v2]) 0 rfl ?_
      refine pu_icmpP (tg := 27) h rfl rfl rfl (fun h => ?_) (fun h => ?_)
      · refine pmSeg_U (pc' := 28) (ls' := [some (.ref 0), some (.int v1), some (.int v2)]) (st' := [.int 0]) 1 rfl ?_
        cases h
        exact pmU_T rfl rfl rfl rfl rfl rfl
      · refine pmSeg_U (pc' := 28) (ls' := [some (.ref 0), some (.int v1), some (.int v2)]) (st' := [.int 1]) 2 rfl ?_
        cases h
        exact pmU_T rfl rfl rfl rfl rfl rfl
theorem L_Se_remove_b19 {S : pmS} (d : Nat)    : ∀ (n0 : Nat) {v0 : Nat} {v2 : Nat} {v3 : Int32} {σ τ : Mem} {z : Int32 × Mem}, isSe v0 → isPo v2 → Se_remove_b19 n0 v0 v2 v3 σ = some z → pmU S (d + 0) 70 19 [some (.ref v0), none, some (.ref v2), some (.int v3)] [] (shH σ τ) (some (.int z.1)) (shH z.2 τ) := by
  intro n0
  induction n0 with
  | zero =>
    intro v0 v2 v3 σ τ z hv0 hv2 h
    unfold Se_remove_b19 at h
    cases h
  | succ n1 ih =>
    intro v0 v2 v3 σ τ z hv0 hv2 h
    unfold Se_remove_b19 at h
    refine pmSeg_U (pc' := 21) (ls' := [some (.ref v0), none, some (.ref v2), some (.int v3)]) (st' := [.ref v0, .int v3]) 2 rfl ?_
    refine pu_get rfl rfl (Se_k hv0) (shp_iX (Se_f1 hv0) (Se_lt hv0)) ?_
    refine pmSeg_U (pc' := 24) (ls' := [some (.ref v0), none, some (.ref v2), some (.int v3)]) (st' := [.int (σ v0 1), .int v3]) 0 rfl ?_
    refine pu_icmpP (tg := 47) h rfl rfl rfl (fun h => ?_) (fun h => ?_)
    · refine pmSeg_U (pc' := 48) (ls' := [some (.ref v0), none, some (.ref v2), some (.int v3)]) (st' := [.ref v0]) 1 rfl ?_
      refine pu_get rfl rfl (Se_k hv0) (shp_R (Se_f0 hv0)) ?_
      refine pmSeg_U (pc' := 52) (ls' := [some (.ref v0), none, some (.ref v2), some (.int v3)]) (st' := [.ref v0, .ref (v0 + 1)]) 1 rfl ?_
      refine pu_get rfl rfl (Se_k hv0) (shp_iX (Se_f1 hv0) (Se_lt hv0)) ?_
      obtain ⟨g1, h⟩ := gd_in h
      refine pmSeg_U (pc' := 56) (ls' := [some (.ref v0), none, some (.ref v2), some (.int v3)]) (st' := [.ref v2, .int (σ v0 1), .ref (v0 + 1)]) 1 rfl ?_
      refine pu_aast rfl (Se_a1 hv0).1 g1 (Po_k hv2) (shp_pR (fx_P (Se_a1 hv0)) (Se_a1 hv0).2 (Po_31 hv2)) ?_
      refine pmSeg_U (pc' := 58) (ls' := [some (.ref v0), none, some (.ref v2), some (.int v3)]) (st' := [.ref v0]) 1 rfl ?_
      refine pu_get rfl rfl (Se_k hv0) (shp_iX (Se_f1 hv0) (Se_lt hv0)) ?_
      refine pmSeg_U (pc' := 61) (ls' := [some (.ref v0), none, some (.ref v2), some (.int v3)]) (st' := [.int ((mput σ (v0 + 1) (σ v0 1).toNatClampNeg (nI v2)) v0 1)]) 0 rfl ?_
      cases h
      exact pmU_T rfl rfl rfl rfl rfl rfl
    · refine pmSeg_U (pc' := 28) (ls' := [some (.ref v0), none, some (.ref v2), some (.int v3)]) (st' := [.ref v0]) 1 rfl ?_
      refine pu_get rfl rfl (Se_k hv0) (shp_R (Se_f0 hv0)) ?_
      refine pmSeg_U (pc' := 33) (ls' := [some (.ref v0), none, some (.ref v2), some (.int v3)]) (st' := [.ref v0, .int v3, .ref (v0 + 1)]) 2 rfl ?_
      refine pu_get rfl rfl (Se_k hv0) (shp_R (Se_f0 hv0)) ?_
      obtain ⟨g2, h⟩ := gd_in h
      obtain ⟨g3, h⟩ := gd_in h
      refine pmSeg_U (pc' := 39) (ls' := [some (.ref v0), none, some (.ref v2), some (.int v3)]) (st' := [.int (v3 + 1), .ref (v0 + 1), .int v3, .ref (v0 + 1)]) 3 rfl ?_
      refine pu_aald rfl (Se_a1 hv0).1 g2 (shp_mX (fx_P (Se_a1 hv0)) (Se_a1 hv0).2 (po_nn g3)) ?_
      obtain ⟨g4, h⟩ := gd_in h
      refine pmSeg_U (pc' := 40) (ls' := [some (.ref v0), none, some (.ref v2), some (.int v3)]) (st' := [.ref (ix (σ (v0 + 1) (v3 + 1).toNatClampNeg)), .int v3, .ref (v0 + 1)]) 0 rfl ?_
      refine pu_aast rfl (Se_a1 hv0).1 g4 (Po_k g3) (shp_pR (fx_P (Se_a1 hv0)) (Se_a1 hv0).2 (Po_31 g3)) ?_
      refine pmSeg_U (pc' := 19) (ls' := [some (.ref v0), none, some (.ref v2), some (.int (v3 + 1))]) (st' := []) 2 rfl ?_
      exact ih hv0 hv2 h
theorem L_Se_remove {S : pmS} (d : Nat) {v0 : Nat} {v1 : Int32} {σ τ : Mem} {z : Int32 × Mem} (hv0 : isSe v0) (h : Se_remove v0 v1 σ = some z) : pmX S (d + 1) 70 [.ref v0, .int v1] (shH σ τ) (some (.int z.1)) (shH z.2 τ) := by
  unfold Se_remove at h
  refine pmU_X rfl ?_
  refine pmSeg_U (pc' := 1) (ls' := [some (.ref v0), some (.int v1), none, none]) (st' := [.ref v0]) 1 rfl ?_
  refine pu_get rfl rfl (Se_k hv0) (shp_R (Se_f0 hv0)) ?_
  obtain ⟨g1, h⟩ := gd_in h
  obtain ⟨g2, h⟩ := gd_in h
  refine pmSeg_U (pc' := 5) (ls' := [some (.ref v0), some (.int v1), none, none]) (st' := [.int v1, .ref (v0 + 1)]) 1 rfl ?_
  refine pu_aald rfl (Se_a1 hv0).1 g1 (shp_mX (fx_P (Se_a1 hv0)) (Se_a1 hv0).2 (po_nn g2)) ?_
  refine pmSeg_U (pc' := 9) (ls' := [some (.ref v0), some (.int v1), some (.ref (ix (σ (v0 + 1) v1.toNatClampNeg))), none]) (st' := [.ref v0, .ref v0]) 3 rfl ?_
  refine pu_get rfl rfl (Se_k hv0) (shp_iX (Se_f1 hv0) (Se_lt hv0)) ?_
  refine pmSeg_U (pc' := 14) (ls' := [some (.ref v0), some (.int v1), some (.ref (ix (σ (v0 + 1) v1.toNatClampNeg))), none]) (st' := [.int ((σ v0 1) - 1), .ref v0]) 2 rfl ?_
  refine pu_put rfl rfl (Se_k hv0) rfl rfl (shp_pX (Se_f1 hv0) (Se_lt hv0)) ?_
  refine pmSeg_U (pc' := 19) (ls' := [some (.ref v0), some (.int v1), some (.ref (ix (σ (v0 + 1) v1.toNatClampNeg))), some (.int v1)]) (st' := []) 2 rfl ?_
  refine pmU_le (a := [some (.ref v0), none, some (.ref (ix (σ (v0 + 1) v1.toNatClampNeg))), some (.int v1)]) (le_s (le_v rfl (le_s (le_s le_nil)))) ?_
  exact L_Se_remove_b19 d FU hv0 g2 h
theorem L_Ps_drop {S : pmS} (d : Nat) {v1 : Int32} {v2 : Int32} {σ τ : Mem} {z : Int32 × Mem}  (h : Ps_drop v1 v2 σ = some z) : pmX S (d + 3) 68 [.ref 0, .int v1, .int v2] (shH σ τ) (some (.int z.1)) (shH z.2 τ) := by
  unfold Ps_drop at h
  refine pmU_X rfl ?_
  refine pmSeg_U (pc' := 3) (ls' := [some (.ref 0), some (.int v1), some (.int v2)]) (st' := [.int v2, .int v1, .ref 0]) 3 rfl ?_
  obtain ⟨q3, hq3, h⟩ := bd_in h
  refine pmU_C (av := [.ref 0, .int v1, .int v2]) (rest := []) rfl rfl rfl rfl rfl (L_Ps_isPolicy (d + 0) hq3) ?_
  refine pmSeg_U (pc' := 6) (ls' := [some (.ref 0), some (.int v1), some (.int v2)]) (st' := [.int q3]) 0 rfl ?_
  refine pu_ifP (tg := 21) h rfl rfl rfl (fun h => ?_) (fun h => ?_)
  · refine pmSeg_U (pc' := 23) (ls' := [some (.ref 0), some (.int v1), some (.int v2)]) (st' := [.int (-2)]) 1 rfl ?_
    cases h
    exact pmU_T rfl rfl rfl rfl rfl rfl
  · refine pmSeg_U (pc' := 11) (ls' := [some (.ref 0), some (.int v1), some (.int v2)]) (st' := [.int v1, .ref 0]) 2 rfl ?_
    obtain ⟨q11, hq11, h⟩ := bd_in h
    have K11 := K_Ps_chosen hq11
    refine pmU_C (av := [.ref 0, .int v1]) (rest := []) rfl rfl rfl rfl rfl (L_Ps_chosen (d + 1) hq11) ?_
    refine pmSeg_U (pc' := 15) (ls' := [some (.ref 0), some (.int v1), some (.int v2)]) (st' := [.int v2, .ref q11]) 1 rfl ?_
    obtain ⟨q15, hq15, h⟩ := bd_in h
    refine pmU_C (av := [.ref q11, .int v2]) (rest := []) rfl rfl rfl rfl (pmC_virt rfl rfl rfl (Se_k K11)) (L_Se_remove (d + 1) K11 hq15) ?_
    refine pmSeg_U (pc' := 23) (ls' := [some (.ref 0), some (.int v1), some (.int v2)]) (st' := [.int q15.1]) 1 rfl ?_
    cases h
    exact pmU_T rfl rfl rfl rfl rfl rfl
theorem L_Ps_size {S : pmS} (d : Nat) {v1 : Int32} {σ τ : Mem} {z : Int32}  (h : Ps_size v1 σ = some z) : pmX S (d + 2) 71 [.ref 0, .int v1] (shH σ τ) (some (.int z)) (shH σ τ) := by
  unfold Ps_size at h
  refine pmU_X rfl ?_
  refine pmSeg_U (pc' := 1) (ls' := [some (.ref 0), some (.int v1)]) (st' := [.int v1]) 1 rfl ?_
  refine pmU_C (av := [.int v1]) (rest := []) rfl rfl rfl rfl rfl (L_Ps_isSet (d + 0)) ?_
  refine pmSeg_U (pc' := 4) (ls' := [some (.ref 0), some (.int v1)]) (st' := [.int (Ps_isSet v1)]) 0 rfl ?_
  refine pu_ifP (tg := 18) h rfl rfl rfl (fun h => ?_) (fun h => ?_)
  · refine pmSeg_U (pc' := 19) (ls' := [some (.ref 0), some (.int v1)]) (st' := [.int (-1)]) 1 rfl ?_
    cases h
    exact pmU_T rfl rfl rfl rfl rfl rfl
  · refine pmSeg_U (pc' := 9) (ls' := [some (.ref 0), some (.int v1)]) (st' := [.int v1, .ref 0]) 2 rfl ?_
    obtain ⟨q9, hq9, h⟩ := bd_in h
    have K9 := K_Ps_chosen hq9
    refine pmU_C (av := [.ref 0, .int v1]) (rest := []) rfl rfl rfl rfl rfl (L_Ps_chosen (d + 0) hq9) ?_
    refine pmSeg_U (pc' := 12) (ls' := [some (.ref 0), some (.int v1)]) (st' := [.ref q9]) 0 rfl ?_
    obtain ⟨q12, hq12, h⟩ := bd_in h
    refine pmU_C (av := [.ref q9]) (rest := []) rfl rfl rfl rfl (pmC_virt rfl rfl rfl (Se_k K9)) (L_Se_count (d + 0) K9 hq12) ?_
    refine pmSeg_U (pc' := 19) (ls' := [some (.ref 0), some (.int v1)]) (st' := [.int q12]) 1 rfl ?_
    cases h
    exact pmU_T rfl rfl rfl rfl rfl rfl
theorem L_Ps_countBits_b4 {S : pmS} (d : Nat)    : ∀ (n0 : Nat) {v0 : Nat} {v1 : Int32} {v2 : Int32} {σ τ : Mem} {z : Int32}, isA 64 v0 → Ps_countBits_b4 n0 v0 v1 v2 σ = some z → pmU S (d + 1) 86 4 [some (.ref v0), some (.int v1), some (.int v2)] [] (shH σ τ) (some (.int z)) (shH σ τ) := by
  intro n0
  induction n0 with
  | zero =>
    intro v0 v1 v2 σ τ z hv0 h
    unfold Ps_countBits_b4 at h
    cases h
  | succ n1 ih =>
    intro v0 v1 v2 σ τ z hv0 h
    unfold Ps_countBits_b4 at h
    refine pmSeg_U (pc' := 6) (ls' := [some (.ref v0), some (.int v1), some (.int v2)]) (st' := [.ref v0, .int v2]) 2 rfl ?_
    refine pu_alen rfl hv0.1 ?_
    refine pmSeg_U (pc' := 7) (ls' := [some (.ref v0), some (.int v1), some (.int v2)]) (st' := [.int 64, .int v2]) 0 rfl ?_
    refine pu_icmpP (tg := 25) h rfl rfl rfl (fun h => ?_) (fun h => ?_)
    · refine pmSeg_U (pc' := 26) (ls' := [some (.ref v0), some (.int v1), some (.int v2)]) (st' := [.int v1]) 1 rfl ?_
      cases h
      exact pmU_T rfl rfl rfl rfl rfl rfl
    · obtain ⟨g1, h⟩ := gd_in h
      refine pmSeg_U (pc' := 13) (ls' := [some (.ref v0), some (.int v1), some (.int v2)]) (st' := [.int v2, .ref v0, .int v1]) 3 rfl ?_
      refine pu_iald rfl hv0.1 g1 (shp_iX (fx_A hv0) hv0.2) ?_
      refine pmSeg_U (pc' := 14) (ls' := [some (.ref v0), some (.int v1), some (.int v2)]) (st' := [.int (σ v0 v2.toNatClampNeg), .int v1]) 0 rfl ?_
      refine pmU_C (av := [.int (σ v0 v2.toNatClampNeg)]) (rest := [.int v1]) rfl rfl rfl rfl rfl (L_bitc (d + 0)) ?_
      refine pmSeg_U (pc' := 4) (ls' := [some (.ref v0), some (.int (v1 + (bitc (σ v0 v2.toNatClampNeg)))), some (.int (v2 + 1))]) (st' := []) 4 rfl ?_
      exact ih hv0 h
theorem L_Ps_countBits {S : pmS} (d : Nat) {v0 : Nat} {σ τ : Mem} {z : Int32} (hv0 : isA 64 v0) (h : Ps_countBits v0 σ = some z) : pmX S (d + 2) 86 [.ref v0] (shH σ τ) (some (.int z)) (shH σ τ) := by
  unfold Ps_countBits at h
  refine pmU_X rfl ?_
  refine pmSeg_U (pc' := 4) (ls' := [some (.ref v0), some (.int 0), some (.int 0)]) (st' := []) 4 rfl ?_
  exact L_Ps_countBits_b4 d FU hv0 h
theorem L_Ju_isInScope' {S : pmS} (d : Nat) {v0 : Int32} {v1 : Int32} {v2 : Int32} {h0 : pmH} {z : Int32} (h : Ju_isInScope v0 v1 v2 = z) : pmX S (d + 2) 76 [.int v0, .int v1, .int v2] h0 (some (.int z)) h0 := by
  unfold Ju_isInScope at h
  refine pmU_X rfl ?_
  refine pmSeg_U (pc' := 2) (ls' := [some (.int v0), some (.int v1), some (.int v2)]) (st' := [.int 4, .int v0]) 2 rfl ?_
  refine pu_icmpP (tg := 13) h rfl rfl rfl (fun h => ?_) (fun h => ?_)
  · refine pmSeg_U (pc' := 15) (ls' := [some (.int v0), some (.int v1), some (.int v2)]) (st' := [.int (-1), .int v0]) 2 rfl ?_
    refine pu_icmpP (tg := 23) h rfl rfl rfl (fun h => ?_) (fun h => ?_)
    · refine pmSeg_U (pc' := 28) (ls' := [some (.int v0), some (.int v1), some (.int v2)]) (st' := [.int 1]) 2 rfl ?_
      cases h
      exact pmU_T rfl rfl rfl rfl rfl rfl
    · refine pmSeg_U (pc' := 20) (ls' := [some (.int v0), some (.int v1), some (.int v2)]) (st' := [.int v1, .int v0]) 2 rfl ?_
      refine pu_icmpP (tg := 27) h rfl rfl rfl (fun h => ?_) (fun h => ?_)
      · refine pmSeg_U (pc' := 28) (ls' := [some (.int v0), some (.int v1), some (.int v2)]) (st' := [.int 0]) 1 rfl ?_
        cases h
        exact pmU_T rfl rfl rfl rfl rfl rfl
      · refine pmSeg_U (pc' := 28) (ls' := [some (.int v0), some (.int v1), some (.int v2)]) (st' := [.int 1]) 2 rfl ?_
        cases h
        exact pmU_T rfl rfl rfl rfl rfl rfl
  · refine pmSeg_U (pc' := 9) (ls' := [some (.int v0), some (.int v1), some (.int v2)]) (st' := [.int (v0 - 4), .int v2]) 4 rfl ?_
    refine pmU_C (av := [.int v2, .int (v0 - 4)]) (rest := []) rfl rfl rfl rfl rfl (L_Ps_hasBit (d + 0)) ?_
    refine pmSeg_U (pc' := 12) (ls' := [some (.int v0), some (.int v1), some (.int v2)]) (st' := [.int (Ps_hasBit v2 (v0 - 4))]) 0 rfl ?_
    cases h
    exact pu_retZ rfl rfl (bz_Ps_hasBit)
theorem L_Ju_isInScope {S : pmS} (d : Nat) {v0 : Int32} {v1 : Int32} {v2 : Int32} {h0 : pmH} : pmX S (d + 2) 76 [.int v0, .int v1, .int v2] h0 (some (.int (Ju_isInScope v0 v1 v2))) h0 := L_Ju_isInScope' d rfl
theorem bz_Ju_isInScope {v0 : Int32} {v1 : Int32} {v2 : Int32} : (Ju_isInScope v0 v1 v2 == 0 || Ju_isInScope v0 v1 v2 == 1) = true := by
  unfold Ju_isInScope
  first | rfl | exact bz_Ps_hasBit | (split <;> first | rfl | exact bz_Ps_hasBit | (split <;> first | rfl | exact bz_Ps_hasBit | (split <;> first | rfl | exact bz_Ps_hasBit | (split <;> first | rfl | exact bz_Ps_hasBit | (split <;> first | rfl | exact bz_Ps_hasBit | (split <;> first | rfl | exact bz_Ps_hasBit | (split <;> first | rfl | exact bz_Ps_hasBit | (split <;> first | rfl | exact bz_Ps_hasBit))))))))
theorem L_Ju_covers {S : pmS} (d : Nat) {v1 : Nat} {v2 : Int32} {v3 : Int32} {σ τ : Mem} {z : Int32} (hv1 : isPo v1) (h : Ju_covers v1 v2 v3 σ = some z) : pmX S (d + 3) 75 [.ref 13, .ref v1, .int v2, .int v3] (shH σ τ) (some (.int z)) (shH σ τ) := by
  unfold Ju_covers at h
  refine pmU_X rfl ?_
  refine pmSeg_U (pc' := 1) (ls' := [some (.ref 13), some (.ref v1), some (.int v2), some (.int v3)]) (st' := [.ref v1]) 1 rfl ?_
  refine pu_get rfl rfl (Po_k hv1) (shp_iX (Po_f4 hv1) (Po_lt hv1)) ?_
  refine pmSeg_U (pc' := 10) (ls' := [some (.ref 13), some (.ref v1), some (.int v2), some (.int v3)]) (st' := [.int v2, .ref 1, .int v2, .int (σ v1 4)]) 4 rfl ?_
  obtain ⟨q10, hq10, h⟩ := bd_in h
  refine pmU_C (av := [.ref 1, .int v2]) (rest := [.int v2, .int (σ v1 4)]) rfl rfl rfl rfl rfl (L_Wo_groupsOf (d + 0) hq10) ?_
  refine pmSeg_U (pc' := 13) (ls' := [some (.ref 13), some (.ref v1), some (.int v2), some (.int v3)]) (st' := [.int q10, .int v2, .int (σ v1 4)]) 0 rfl ?_
  refine pmU_C (av := [.int (σ v1 4), .int v2, .int q10]) (rest := []) rfl rfl rfl rfl rfl (L_Ju_isInScope (d + 0)) ?_
  refine pmSeg_U (pc' := 16) (ls' := [some (.ref 13), some (.ref v1), some (.int v2), some (.int v3)]) (st' := [.int (Ju_isInScope (σ v1 4) v2 q10)]) 0 rfl ?_
  refine pu_ifP (tg := 42) h rfl rfl rfl (fun h => ?_) (fun h => ?_)
  · refine pmSeg_U (pc' := 43) (ls' := [some (.ref 13), some (.ref v1), some (.int v2), some (.int v3)]) (st' := [.int 0]) 1 rfl ?_
    cases h
    exact pmU_T rfl rfl rfl rfl rfl rfl
  · refine pmSeg_U (pc' := 20) (ls' := [some (.ref 13), some (.ref v1), some (.int v2), some (.int v3)]) (st' := [.ref v1]) 1 rfl ?_
    refine pu_get rfl rfl (Po_k hv1) (shp_iX (Po_f6 hv1) (Po_lt hv1)) ?_
    refine pmSeg_U (pc' := 29) (ls' := [some (.ref 13), some (.ref v1), some (.int v2), some (.int v3)]) (st' := [.int v3, .ref 1, .int v3, .int (σ v1 6)]) 4 rfl ?_
    obtain ⟨q29, hq29, h⟩ := bd_in h
    refine pmU_C (av := [.ref 1, .int v3]) (rest := [.int v3, .int (σ v1 6)]) rfl rfl rfl rfl rfl (L_Wo_foldersOf (d + 0) hq29) ?_
    refine pmSeg_U (pc' := 32) (ls' := [some (.ref 13), some (.ref v1), some (.int v2), some (.int v3)]) (st' := [.int q29, .int v3, .int (σ v1 6)]) 0 rfl ?_
    refine pmU_C (av := [.int (σ v1 6), .int v3, .int q29]) (rest := []) rfl rfl rfl rfl rfl (L_Ju_isInScope (d + 0)) ?_
    refine pmSeg_U (pc' := 35) (ls' := [some (.ref 13), some (.ref v1), some (.int v2), some (.int v3)]) (st' := [.int (Ju_isInScope (σ v1 6) v3 q29)]) 0 rfl ?_
    refine pu_ifP (tg := 42) h rfl rfl rfl (fun h => ?_) (fun h => ?_)
    · refine pmSeg_U (pc' := 43) (ls' := [some (.ref 13), some (.ref v1), some (.int v2), some (.int v3)]) (st' := [.int 0]) 1 rfl ?_
      cases h
      exact pmU_T rfl rfl rfl rfl rfl rfl
    · refine pmSeg_U (pc' := 43) (ls' := [some (.ref 13), some (.ref v1), some (.int v2), some (.int v3)]) (st' := [.int 1]) 2 rfl ?_
      cases h
      exact pmU_T rfl rfl rfl rfl rfl rfl
theorem L_Ju_pull_b17 {S : pmS} (d : Nat)     {σ τ : Mem} {z : Int32 × Mem}  (h : Ju_pull_b17 σ = some z) : pmU S (d + 0) 80 17 [some (.ref 13)] [] (shH σ τ) (some (.int z.1)) (shH z.2 τ) := by
  unfold Ju_pull_b17 at h
  obtain ⟨g1, h⟩ := gd_in h
  refine pmSeg_U (pc' := 25) (ls' := [some (.ref 13)]) (st' := [.int (σ 13 2), .ref 14]) 4 rfl ?_
  refine pu_iald rfl rfl g1 (shp_iX rfl (by decide)) ?_
  refine pmSeg_U (pc' := 26) (ls' := [some (.ref 13)]) (st' := [.int (σ 14 (σ 13 2).toNatClampNeg)]) 0 rfl ?_
  cases h
  exact pmU_T rfl rfl rfl rfl rfl rfl
theorem L_Ju_pull {S : pmS} (d : Nat)  {σ τ : Mem} {z : Int32 × Mem}  (h : Ju_pull σ = some z) : pmX S (d + 1) 80 [.ref 13] (shH σ τ) (some (.int z.1)) (shH z.2 τ) := by
  unfold Ju_pull at h
  refine pmU_X rfl ?_
  refine pmSeg_U (pc' := 4) (ls' := [some (.ref 13)]) (st' := [.int (σ 13 2)]) 2 rfl ?_
  refine pu_ifP (tg := 17) h rfl rfl rfl (fun h => ?_) (fun h => ?_)
  · refine pmSeg_U (pc' := 17) (ls' := [some (.ref 13)]) (st' := []) 0 rfl ?_
    exact L_Ju_pull_b17 d h
  · refine pmSeg_U (pc' := 14) (ls' := [some (.ref 13)]) (st' := [.int ((σ 13 2) - 1), .ref 13]) 5 rfl ?_
    refine pu_put rfl rfl rfl rfl rfl (shp_pX rfl (by decide)) ?_
    refine pmSeg_U (pc' := 17) (ls' := [some (.ref 13)]) (st' := []) 0 rfl ?_
    exact L_Ju_pull_b17 d h
theorem L_Ju_push {S : pmS} (d : Nat) {v1 : Int32} {σ τ : Mem} {z : Mem}  (h : Ju_push v1 σ = some z) : pmX S (d + 1) 81 [.ref 13, .int v1] (shH σ τ) none (shH z τ) := by
  unfold Ju_push at h
  refine pmU_X rfl ?_
  refine pmSeg_U (pc' := 6) (ls' := [some (.ref 13), some (.int v1)]) (st' := [.int 12, .int (σ 13 2)]) 3 rfl ?_
  refine pu_icmpP (tg := 29) h rfl rfl rfl (fun h => ?_) (fun h => ?_)
  · refine pmSeg_U (pc' := 29) (ls' := [some (.ref 13), some (.int v1)]) (st' := []) 0 rfl ?_
    cases h
    exact pmU_T rfl rfl rfl rfl rfl rfl
  · obtain ⟨g1, h⟩ := gd_in h
    refine pmSeg_U (pc' := 18) (ls' := [some (.ref 13), some (.int v1)]) (st' := [.int v1, .int (σ 13 2), .ref 14]) 5 rfl ?_
    refine pu_iast rfl rfl g1 (shp_pX rfl (by decide)) ?_
    refine pmSeg_U (pc' := 26) (ls' := [some (.ref 13), some (.int v1)]) (st' := [.int (((mput σ 14 (σ 13 2).toNatClampNeg v1) 13 2) + 1), .ref 13]) 5 rfl ?_
    refine pu_put rfl rfl rfl rfl rfl (shp_pX rfl (by decide)) ?_
    refine pmSeg_U (pc' := 29) (ls' := [some (.ref 13), some (.int v1)]) (st' := []) 0 rfl ?_
    cases h
    exact pmU_T rfl rfl rfl rfl rfl rfl
theorem L_Ju_branch_b56 {S : pmS} (d : Nat)    {v1 : Int32} {v3 : Int32} {v4 : Int32} {σ τ : Mem} {z : Mem}  (h : Ju_branch_b56 v1 v3 v4 σ = some z) : pmU S (d + 1) 79 56 [some (.ref 13), some (.int v1), none, some (.int v3), some (.int v4)] [] (shH σ τ) none (shH z τ) := by
  unfold Ju_branch_b56 at h
  refine pmSeg_U (pc' := 58) (ls' := [some (.ref 13), some (.int v1), none, some (.int v3), some (.int v4)]) (st' := [.int v4]) 1 rfl ?_
  refine pu_ifP (tg := 72) h rfl rfl rfl (fun h => ?_) (fun h => ?_)
  · refine pmSeg_U (pc' := 72) (ls' := [some (.ref 13), some (.int v1), none, some (.int v3), some (.int v4)]) (st' := []) 0 rfl ?_
    cases h
    exact pmU_T rfl rfl rfl rfl rfl rfl
  · refine pmSeg_U (pc' := 64) (ls' := [some (.ref 13), some (.int v1), none, some (.int v3), some (.int v4)]) (st' := [.int 91, .int v1]) 2 rfl ?_
    refine pu_icmpP (tg := 72) h rfl rfl rfl (fun h => ?_) (fun h => ?_)
    · refine pmSeg_U (pc' := 72) (ls' := [some (.ref 13), some (.int v1), none, some (.int v3), some (.int v4)]) (st' := []) 0 rfl ?_
      cases h
      exact pmU_T rfl rfl rfl rfl rfl rfl
    · refine pmSeg_U (pc' := 69) (ls' := [some (.ref 13), some (.int v1), none, some (.int v3), some (.int v4)]) (st' := [.int v3, .ref 13]) 2 rfl ?_
      obtain ⟨q69, hq69, h⟩ := bd_in h
      refine pmU_C (av := [.ref 13, .int v3]) (rest := []) rfl rfl rfl rfl rfl (L_Ju_push (d + 0) hq69) ?_
      refine pmSeg_U (pc' := 72) (ls' := [some (.ref 13), some (.int v1), none, some (.int v3), some (.int v4)]) (st' := []) 0 rfl ?_
      cases h
      exact pmU_T rfl rfl rfl rfl rfl rfl
theorem L_Ju_branch_b44 {S : pmS} (d : Nat)    {v1 : Int32} {v2 : Int32} {v3 : Int32} {s0 : Int32} {σ τ : Mem} {z : Mem}  (h : Ju_branch_b44 v1 v2 v3 s0 σ = some z) : pmU S (d + 1) 79 44 [some (.ref 13), some (.int v1), some (.int v2), some (.int v3), none] [.int s0] (shH σ τ) none (shH z τ) := by
  unfold Ju_branch_b44 at h
  refine pmSeg_U (pc' := 48) (ls' := [some (.ref 13), some (.int v1), some (.int v2), some (.int v3), some (.int s0)]) (st' := [.int s0]) 2 rfl ?_
  refine pu_ifP (tg := 56) h rfl rfl rfl (fun h => ?_) (fun h => ?_)
  · refine pmSeg_U (pc' := 56) (ls' := [some (.ref 13), some (.int v1), some (.int v2), some (.int v3), some (.int s0)]) (st' := []) 0 rfl ?_
    refine pmU_le (a := [some (.ref 13), some (.int v1), none, some (.int v3), some (.int s0)]) (le_s (le_s (le_v rfl (le_s (le_s le_nil))))) ?_
    exact L_Ju_branch_b56 d h
  · refine pmSeg_U (pc' := 53) (ls' := [some (.ref 13), some (.int v1), some (.int v2), some (.int v3), some (.int s0)]) (st' := [.int v2, .ref 13]) 2 rfl ?_
    refine pu_put rfl rfl rfl rfl rfl (shp_pX rfl (by decide)) ?_
    refine pmSeg_U (pc' := 56) (ls' := [some (.ref 13), some (.int v1), some (.int v2), some (.int v3), some (.int s0)]) (st' := []) 0 rfl ?_
    refine pmU_le (a := [some (.ref 13), some (.int v1), none, some (.int v3), some (.int s0)]) (le_s (le_s (le_v rfl (le_s (le_s le_nil))))) ?_
    exact L_Ju_branch_b56 d h
theorem L_Ju_branch {S : pmS} (d : Nat) {v1 : Int32} {v2 : Int32} {σ τ : Mem} {z : Mem}  (h : Ju_branch v1 v2 σ = some z) : pmX S (d + 2) 79 [.ref 13, .int v1, .int v2] (shH σ τ) none (shH z τ) := by
  unfold Ju_branch at h
  refine pmU_X rfl ?_
  refine pmSeg_U (pc' := 3) (ls' := [some (.ref 13), some (.int v1), some (.int v2), none, none]) (st' := [.int 58, .int v1]) 2 rfl ?_
  refine pu_icmpP (tg := 12) h rfl rfl rfl (fun h => ?_) (fun h => ?_)
  · refine pmSeg_U (pc' := 13) (ls' := [some (.ref 13), some (.int v1), some (.int v2), none, none]) (st' := [.ref 13]) 1 rfl ?_
    obtain ⟨q13, hq13, h⟩ := bd_in h
    refine pmU_C (av := [.ref 13]) (rest := []) rfl rfl rfl rfl rfl (L_Ju_pull (d + 0) hq13) ?_
    refine pmSeg_U (pc' := 20) (ls' := [some (.ref 13), some (.int v1), some (.int v2), some (.int q13.1), none]) (st' := [.int 124, .int v1]) 3 rfl ?_
    refine pu_icmpP (tg := 35) h rfl rfl rfl (fun h => ?_) (fun h => ?_)
    · refine pmSeg_U (pc' := 36) (ls' := [some (.ref 13), some (.int v1), some (.int v2), some (.int q13.1), none]) (st' := [.int q13.1]) 1 rfl ?_
      refine pu_ifP (tg := 43) h rfl rfl rfl (fun h => ?_) (fun h => ?_)
      · refine pmSeg_U (pc' := 44) (ls' := [some (.ref 13), some (.int v1), some (.int v2), some (.int q13.1), none]) (st' := [.int 0]) 1 rfl ?_
        exact L_Ju_branch_b44 d h
      · refine pmSeg_U (pc' := 44) (ls' := [some (.ref 13), some (.int v1), some (.int v2), some (.int q13.1), none]) (st' := [.int 1]) 2 rfl ?_
        exact L_Ju_branch_b44 d h
    · refine pmSeg_U (pc' := 24) (ls' := [some (.ref 13), some (.int v1), some (.int v2), some (.int q13.1), none]) (st' := [.int q13.1]) 1 rfl ?_
      refine pu_ifP (tg := 31) h rfl rfl rfl (fun h => ?_) (fun h => ?_)
      · refine pmSeg_U (pc' := 44) (ls' := [some (.ref 13), some (.int v1), some (.int v2), some (.int q13.1), none]) (st' := [.int 0]) 2 rfl ?_
        exact L_Ju_branch_b44 d h
      · refine pmSeg_U (pc' := 44) (ls' := [some (.ref 13), some (.int v1), some (.int v2), some (.int q13.1), none]) (st' := [.int 1]) 2 rfl ?_
        exact L_Ju_branch_b44 d h
  · refine pmSeg_U (pc' := 8) (ls' := [some (.ref 13), some (.int v1), some (.int v2), none, none]) (st' := [.int v2, .ref 13]) 2 rfl ?_
    refine pu_put rfl rfl rfl rfl rfl (shp_pX rfl (by decide)) ?_
    refine pmSeg_U (pc' := 11) (ls' := [some (.ref 13), some (.int v1), some (.int v2), none, none]) (st' := []) 0 rfl ?_
    cases h
    exact pmU_T rfl rfl rfl rfl rfl rfl
theorem L_Ju_reckon_b99 {S : pmS} (d : Nat)    {s1 : Int32} {σ τ : Mem} {z : Mem}  (h : Ju_reckon_b99 s1 σ = some z) : pmU S (d + 1) 82 99 [none, none, none, none] [.int s1, .ref 13] (shH σ τ) none (shH z τ) := by
  unfold Ju_reckon_b99 at h
  refine pmSeg_U (pc' := 99) (ls' := [none, none, none, none]) (st' := [.int s1, .ref 13]) 0 rfl ?_
  obtain ⟨q99, hq99, h⟩ := bd_in h
  refine pmU_C (av := [.ref 13, .int s1]) (rest := []) rfl rfl rfl rfl rfl (L_Ju_push (d + 0) hq99) ?_
  refine pmSeg_U (pc' := 136) (ls' := [none, none, none, none]) (st' := []) 1 rfl ?_
  cases h
  exact pmU_T rfl rfl rfl rfl rfl rfl
theorem L_Ju_reckon_b116 {S : pmS} (d : Nat)    {s1 : Int32} {σ τ : Mem} {z : Mem}  (h : Ju_reckon_b116 s1 σ = some z) : pmU S (d + 1) 82 116 [none, none, none, none] [.int s1, .ref 13] (shH σ τ) none (shH z τ) := by
  unfold Ju_reckon_b116 at h
  refine pmSeg_U (pc' := 116) (ls' := [none, none, none, none]) (st' := [.int s1, .ref 13]) 0 rfl ?_
  obtain ⟨q116, hq116, h⟩ := bd_in h
  refine pmU_C (av := [.ref 13, .int s1]) (rest := []) rfl rfl rfl rfl rfl (L_Ju_push (d + 0) hq116) ?_
  refine pmSeg_U (pc' := 136) (ls' := [none, none, none, none]) (st' := []) 1 rfl ?_
  cases h
  exact pmU_T rfl rfl rfl rfl rfl rfl
theorem L_Ju_reckon_b133 {S : pmS} (d : Nat)    {s1 : Int32} {σ τ : Mem} {z : Mem}  (h : Ju_reckon_b133 s1 σ = some z) : pmU S (d + 1) 82 133 [none, none, none, none] [.int s1, .ref 13] (shH σ τ) none (shH z τ) := by
  unfold Ju_reckon_b133 at h
  refine pmSeg_U (pc' := 133) (ls' := [none, none, none, none]) (st' := [.int s1, .ref 13]) 0 rfl ?_
  obtain ⟨q133, hq133, h⟩ := bd_in h
  refine pmU_C (av := [.ref 13, .int s1]) (rest := []) rfl rfl rfl rfl rfl (L_Ju_push (d + 0) hq133) ?_
  refine pmSeg_U (pc' := 136) (ls' := [none, none, none, none]) (st' := []) 0 rfl ?_
  cases h
  exact pmU_T rfl rfl rfl rfl rfl rfl
theorem L_Ju_reckon {S : pmS} (d : Nat) {v1 : Int32} {σ τ : Mem} {z : Mem}  (h : Ju_reckon v1 σ = some z) : pmX S (d + 2) 82 [.ref 13, .int v1] (shH σ τ) none (shH z τ) := by
  unfold Ju_reckon at h
  refine pmU_X rfl ?_
  refine pmSeg_U (pc' := 1) (ls' := [some (.ref 13), some (.int v1), none, none]) (st' := [.ref 13]) 1 rfl ?_
  obtain ⟨q1, hq1, h⟩ := bd_in h
  refine pmU_C (av := [.ref 13]) (rest := []) rfl rfl rfl rfl rfl (L_Ju_pull (d + 0) hq1) ?_
  refine pmSeg_U (pc' := 8) (ls' := [some (.ref 13), some (.int v1), some (.int q1.1), none]) (st' := [.int 33, .int v1]) 3 rfl ?_
  refine pu_icmpP (tg := 19) h rfl rfl rfl (fun h => ?_) (fun h => ?_)
  · refine pmSeg_U (pc' := 20) (ls' := [some (.ref 13), some (.int v1), some (.int q1.1), none]) (st' := [.ref 13]) 1 rfl ?_
    obtain ⟨q20, hq20, h⟩ := bd_in h
    refine pmU_C (av := [.ref 13]) (rest := []) rfl rfl rfl rfl rfl (L_Ju_pull (d + 0) hq20) ?_
    refine pmSeg_U (pc' := 25) (ls' := [some (.ref 13), some (.int v1), some (.int q1.1), some (.int q20.1)]) (st' := [.int v1]) 2 rfl ?_
    refine br_sw h (fun e1 h => ?_) (fun e1 h => ?_)
    · refine pu_sw (v := 43) (tg := 68) e1 rfl rfl rfl ?_
      refine pmSeg_U (pc' := 72) (ls' := [some (.ref 13), some (.int v1), some (.int q1.1), some (.int q20.1)]) (st' := [.int (q20.1 + q1.1), .ref 13]) 4 rfl ?_
      obtain ⟨q72, hq72, h⟩ := bd_in h
      refine pmU_C (av := [.ref 13, .int (q20.1 + q1.1)]) (rest := []) rfl rfl rfl rfl rfl (L_Ju_push (d + 0) hq72) ?_
      refine pmSeg_U (pc' := 136) (ls' := [some (.ref 13), some (.int v1), some (.int q1.1), some (.int q20.1)]) (st' := []) 1 rfl ?_
      cases h
      exact pmU_T rfl rfl rfl rfl rfl rfl
    refine br_sw h (fun e2 h => ?_) (fun e2 h => ?_)
    · refine pu_sw (v := 45) (tg := 78) e2 rfl rfl rfl ?_
      refine pmSeg_U (pc' := 82) (ls' := [some (.ref 13), some (.int v1), some (.int q1.1), some (.int q20.1)]) (st' := [.int (q20.1 - q1.1), .ref 13]) 4 rfl ?_
      obtain ⟨q82, hq82, h⟩ := bd_in h
      refine pmU_C (av := [.ref 13, .int (q20.1 - q1.1)]) (rest := []) rfl rfl rfl rfl rfl (L_Ju_push (d + 0) hq82) ?_
      refine pmSeg_U (pc' := 136) (ls' := [some (.ref 13), some (.int v1), some (.int q1.1), some (.int q20.1)]) (st' := []) 1 rfl ?_
      cases h
      exact pmU_T rfl rfl rfl rfl rfl rfl
    refine br_sw h (fun e3 h => ?_) (fun e3 h => ?_)
    · refine pu_sw (v := 60) (tg := 88) e3 rfl rfl rfl ?_
      refine pmSeg_U (pc' := 91) (ls' := [some (.ref 13), some (.int v1), some (.int q1.1), some (.int q20.1)]) (st' := [.int q1.1, .int q20.1, .ref 13]) 3 rfl ?_
      refine pu_icmpP (tg := 98) h rfl rfl rfl (fun h => ?_) (fun h => ?_)
      · refine pmSeg_U (pc' := 99) (ls' := [some (.ref 13), some (.int v1), some (.int q1.1), some (.int q20.1)]) (st' := [.int 0, .ref 13]) 1 rfl ?_
        refine pmU_le (a := [none, none, none, none]) (le_v rfl (le_v rfl (le_v rfl (le_v rfl le_nil)))) ?_
        exact L_Ju_reckon_b99 d h
      · refine pmSeg_U (pc' := 99) (ls' := [some (.ref 13), some (.int v1), some (.int q1.1), some (.int q20.1)]) (st' := [.int 1, .ref 13]) 2 rfl ?_
        refine pmU_le (a := [none, none, none, none]) (le_v rfl (le_v rfl (le_v rfl (le_v rfl le_nil)))) ?_
        exact L_Ju_reckon_b99 d h
    refine br_sw h (fun e4 h => ?_) (fun e4 h => ?_)
    · refine pu_sw (v := 61) (tg := 105) e4 rfl rfl rfl ?_
      refine pmSeg_U (pc' := 108) (ls' := [some (.ref 13), some (.int v1), some (.int q1.1), some (.int q20.1)]) (st' := [.int q1.1, .int q20.1, .ref 13]) 3 rfl ?_
      refine pu_icmpP (tg := 115) h rfl rfl rfl (fun h => ?_) (fun h => ?_)
      · refine pmSeg_U (pc' := 116) (ls' := [some (.ref 13), some (.int v1), some (.int q1.1), some (.int q20.1)]) (st' := [.int 0, .ref 13]) 1 rfl ?_
        refine pmU_le (a := [none, none, none, none]) (le_v rfl (le_v rfl (le_v rfl (le_v rfl le_nil)))) ?_
        exact L_Ju_reckon_b116 d h
      · refine pmSeg_U (pc' := 116) (ls' := [some (.ref 13), some (.int v1), some (.int q1.1), some (.int q20.1)]) (st' := [.int 1, .ref 13]) 2 rfl ?_
        refine pmU_le (a := [none, none, none, none]) (le_v rfl (le_v rfl (le_v rfl (le_v rfl le_nil)))) ?_
        exact L_Ju_reckon_b116 d h
    refine pu_lswD (tg := 122) rfl rfl (ls_c (lv_neT e1 rfl) (ls_c (lv_neT e2 rfl) (ls_c (lv_neT e3 rfl) (ls_c (lv_neT e4 rfl) ls_n)))) rfl ?_
    refine pmSeg_U (pc' := 125) (ls' := [some (.ref 13), some (.int v1), some (.int q1.1), some (.int q20.1)]) (st' := [.int q1.1, .int q20.1, .ref 13]) 3 rfl ?_
    refine pu_icmpP (tg := 132) h rfl rfl rfl (fun h => ?_) (fun h => ?_)
    · refine pmSeg_U (pc' := 133) (ls' := [some (.ref 13), some (.int v1), some (.int q1.1), some (.int q20.1)]) (st' := [.int 0, .ref 13]) 1 rfl ?_
      refine pmU_le (a := [none, none, none, none]) (le_v rfl (le_v rfl (le_v rfl (le_v rfl le_nil)))) ?_
      exact L_Ju_reckon_b133 d h
    · refine pmSeg_U (pc' := 133) (ls' := [some (.ref 13), some (.int v1), some (.int q1.1), some (.int q20.1)]) (st' := [.int 1, .ref 13]) 2 rfl ?_
      refine pmU_le (a := [none, none, none, none]) (le_v rfl (le_v rfl (le_v rfl (le_v rfl le_nil)))) ?_
      exact L_Ju_reckon_b133 d h
  · refine pmSeg_U (pc' := 15) (ls' := [some (.ref 13), some (.int v1), some (.int q1.1), none]) (st' := [.int (1 - q1.1), .ref 13]) 4 rfl ?_
    obtain ⟨q15, hq15, h⟩ := bd_in h
    refine pmU_C (av := [.ref 13, .int (1 - q1.1)]) (rest := []) rfl rfl rfl rfl rfl (L_Ju_push (d + 0) hq15) ?_
    refine pmSeg_U (pc' := 18) (ls' := [some (.ref 13), some (.int v1), some (.int q1.1), none]) (st' := []) 0 rfl ?_
    cases h
    exact pmU_T rfl rfl rfl rfl rfl rfl
theorem L_Ps_personOf' {S : pmS} (d : Nat) {v0 : Int32} {h0 : pmH} {z : Int32} (h : Ps_personOf v0 = z) : pmX S (d + 1) 84 [.int v0] h0 (some (.int z)) h0 := by
  unfold Ps_personOf at h
  refine pmU_X rfl ?_
  refine pmSeg_U (pc' := 4) (ls' := [some (.int v0)]) (st' := [.int (v0 >>> (9 &&& 31))]) 3 rfl ?_
  cases h
  exact pmU_T rfl rfl rfl rfl rfl rfl
theorem L_Ps_personOf {S : pmS} (d : Nat) {v0 : Int32} {h0 : pmH} : pmX S (d + 1) 84 [.int v0] h0 (some (.int (Ps_personOf v0))) h0 := L_Ps_personOf' d rfl
theorem L_Ps_thingOf' {S : pmS} (d : Nat) {v0 : Int32} {h0 : pmH} {z : Int32} (h : Ps_thingOf v0 = z) : pmX S (d + 1) 85 [.int v0] h0 (some (.int z)) h0 := by
  unfold Ps_thingOf at h
  refine pmU_X rfl ?_
  refine pmSeg_U (pc' := 5) (ls' := [some (.int v0)]) (st' := [.int ((v0 >>> (5 &&& 31)) &&& 3)]) 5 rfl ?_
  cases h
  exact pmU_T rfl rfl rfl rfl rfl rfl
theorem L_Ps_thingOf {S : pmS} (d : Nat) {v0 : Int32} {h0 : pmH} : pmX S (d + 1) 85 [.int v0] h0 (some (.int (Ps_thingOf v0))) h0 := L_Ps_thingOf' d rfl
theorem L_Wo_valueOf {S : pmS} (d : Nat) {v1 : Int32} {v2 : Int32} {v3 : Int32} {σ τ : Mem} {z : Int32}  (h : Wo_valueOf v1 v2 v3 σ = some z) : pmX S (d + 2) 83 [.ref 1, .int v1, .int v2, .int v3] (shH σ τ) (some (.int z)) (shH σ τ) := by
  unfold Wo_valueOf at h
  refine pmU_X rfl ?_
  refine pmSeg_U (pc' := 1) (ls' := [some (.ref 1), some (.int v1), some (.int v2), some (.int v3), none, none]) (st' := [.int v3]) 1 rfl ?_
  refine pmU_C (av := [.int v3]) (rest := []) rfl rfl rfl rfl rfl (L_Ps_personOf (d + 0)) ?_
  refine pmSeg_U (pc' := 7) (ls' := [some (.ref 1), some (.int v1), some (.int v2), some (.int v3), some (.int (Ps_personOf v3)), none]) (st' := [.int v3]) 2 rfl ?_
  refine pmU_C (av := [.int v3]) (rest := []) rfl rfl rfl rfl rfl (L_Ps_thingOf (d + 0)) ?_
  refine pmSeg_U (pc' := 13) (ls' := [some (.ref 1), some (.int v1), some (.int v2), some (.int v3), some (.int (Ps_personOf v3)), some (.int (Ps_thingOf v3))]) (st' := [.int v1]) 2 rfl ?_
  refine br_sw h (fun e1 h => ?_) (fun e1 h => ?_)
  · refine pu_sw (v := 98) (tg := 91) e1 rfl rfl rfl ?_
    refine pmSeg_U (pc' := 96) (ls' := [some (.ref 1), some (.int v1), some (.int v2), some (.int v3), some (.int (Ps_personOf v3)), some (.int (Ps_thingOf v3))]) (st' := [.int ((v3 >>> (1 &&& 31)) &&& 1)]) 5 rfl ?_
    cases h
    exact pmU_T rfl rfl rfl rfl rfl rfl
  refine br_sw h (fun e2 h => ?_) (fun e2 h => ?_)
  · refine pu_sw (v := 99) (tg := 97) e2 rfl rfl rfl ?_
    refine pmSeg_U (pc' := 100) (ls' := [some (.ref 1), some (.int v1), some (.int v2), some (.int v3), some (.int (Ps_personOf v3)), some (.int (Ps_thingOf v3))]) (st' := [.int (v3 &&& 1)]) 3 rfl ?_
    cases h
    exact pmU_T rfl rfl rfl rfl rfl rfl
  refine br_sw h (fun e3 h => ?_) (fun e3 h => ?_)
  · refine pu_sw (v := 102) (tg := 115) e3 rfl rfl rfl ?_
    refine pmSeg_U (pc' := 121) (ls' := [some (.ref 1), some (.int v1), some (.int v2), some (.int v3), some (.int (Ps_personOf v3)), some (.int (Ps_thingOf v3))]) (st' := [.int (Ps_thingOf v3), .ref 6]) 3 rfl ?_
    obtain ⟨q121, hq121, h⟩ := bd_in h
    refine pmU_C (av := [.ref 6, .int (Ps_thingOf v3)]) (rest := []) rfl rfl rfl rfl rfl (L_Ne_holdersOf (d + 0) (by decide) hq121) ?_
    refine pmSeg_U (pc' := 128) (ls' := [some (.ref 1), some (.int v1), some (.int v2), some (.int v3), some (.int (Ps_personOf v3)), some (.int (Ps_thingOf v3))]) (st' := [.int ((q121 >>> (v2 &&& 31)) &&& 1)]) 4 rfl ?_
    cases h
    exact pmU_T rfl rfl rfl rfl rfl rfl
  refine br_sw h (fun e4 h => ?_) (fun e4 h => ?_)
  · refine pu_sw (v := 103) (tg := 101) e4 rfl rfl rfl ?_
    refine pmSeg_U (pc' := 107) (ls' := [some (.ref 1), some (.int v1), some (.int v2), some (.int v3), some (.int (Ps_personOf v3)), some (.int (Ps_thingOf v3))]) (st' := [.int (Ps_personOf v3), .ref 2]) 3 rfl ?_
    obtain ⟨q107, hq107, h⟩ := bd_in h
    refine pmU_C (av := [.ref 2, .int (Ps_personOf v3)]) (rest := []) rfl rfl rfl rfl rfl (L_Ne_holdersOf (d + 0) (by decide) hq107) ?_
    refine pmSeg_U (pc' := 114) (ls' := [some (.ref 1), some (.int v1), some (.int v2), some (.int v3), some (.int (Ps_personOf v3)), some (.int (Ps_thingOf v3))]) (st' := [.int ((q107 >>> (v2 &&& 31)) &&& 1)]) 4 rfl ?_
    cases h
    exact pmU_T rfl rfl rfl rfl rfl rfl
  refine br_sw h (fun e5 h => ?_) (fun e5 h => ?_)
  · refine pu_sw (v := 104) (tg := 129) e5 rfl rfl rfl ?_
    obtain ⟨g6, h⟩ := gd_in h
    refine pmSeg_U (pc' := 139) (ls' := [some (.ref 1), some (.int v1), some (.int v2), some (.int v3), some (.int (Ps_personOf v3)), some (.int (Ps_thingOf v3))]) (st' := [.int (((Ps_personOf v3) * 4) + v2), .ref 10]) 7 rfl ?_
    refine pu_iald rfl rfl g6 (shp_iX rfl (by decide)) ?_
    refine pmSeg_U (pc' := 141) (ls' := [some (.ref 1), some (.int v1), some (.int v2), some (.int v3), some (.int (Ps_personOf v3)), some (.int (Ps_thingOf v3))]) (st' := [.int (-1), .int (σ 10 (((Ps_personOf v3) * 4) + v2).toNatClampNeg)]) 1 rfl ?_
    refine pu_icmpP (tg := 148) h rfl rfl rfl (fun h => ?_) (fun h => ?_)
    · refine pmSeg_U (pc' := 149) (ls' := [some (.ref 1), some (.int v1), some (.int v2), some (.int v3), some (.int (Ps_personOf v3)), some (.int (Ps_thingOf v3))]) (st' := [.int 1]) 1 rfl ?_
      cases h
      exact pmU_T rfl rfl rfl rfl rfl rfl
    · refine pmSeg_U (pc' := 149) (ls' := [some (.ref 1), some (.int v1), some (.int v2), some (.int v3), some (.int (Ps_personOf v3)), some (.int (Ps_thingOf v3))]) (st' := [.int 0]) 2 rfl ?_
      cases h
      exact pmU_T rfl rfl rfl rfl rfl rfl
  refine br_sw h (fun e7 h => ?_) (fun e7 h => ?_)
  · refine pu_sw (v := 108) (tg := 180) e7 rfl rfl rfl ?_
    obtain ⟨g8, h⟩ := gd_in h
    refine pmSeg_U (pc' := 186) (ls' := [some (.ref 1), some (.int v1), some (.int v2), some (.int v3), some (.int (Ps_personOf v3)), some (.int (Ps_thingOf v3))]) (st' := [.int (Ps_thingOf v3), .ref 11]) 3 rfl ?_
    refine pu_iald rfl rfl g8 (shp_iX rfl (by decide)) ?_
    refine pmSeg_U (pc' := 187) (ls' := [some (.ref 1), some (.int v1), some (.int v2), some (.int v3), some (.int (Ps_personOf v3)), some (.int (Ps_thingOf v3))]) (st' := [.int (σ 11 (Ps_thingOf v3).toNatClampNeg)]) 0 rfl ?_
    cases h
    exact pmU_T rfl rfl rfl rfl rfl rfl
  refine br_sw h (fun e9 h => ?_) (fun e9 h => ?_)
  · refine pu_sw (v := 109) (tg := 150) e9 rfl rfl rfl ?_
    obtain ⟨g10, h⟩ := gd_in h
    refine pmSeg_U (pc' := 160) (ls' := [some (.ref 1), some (.int v1), some (.int v2), some (.int v3), some (.int (Ps_personOf v3)), some (.int (Ps_thingOf v3))]) (st' := [.int (((Ps_personOf v3) * 4) + v2), .ref 10]) 7 rfl ?_
    refine pu_iald rfl rfl g10 (shp_iX rfl (by decide)) ?_
    refine pmSeg_U (pc' := 161) (ls' := [some (.ref 1), some (.int v1), some (.int v2), some (.int v3), some (.int (Ps_personOf v3)), some (.int (Ps_thingOf v3))]) (st' := [.int (σ 10 (((Ps_personOf v3) * 4) + v2).toNatClampNeg)]) 0 rfl ?_
    cases h
    exact pmU_T rfl rfl rfl rfl rfl rfl
  refine br_sw h (fun e11 h => ?_) (fun e11 h => ?_)
  · refine pu_sw (v := 110) (tg := 84) e11 rfl rfl rfl ?_
    refine pmSeg_U (pc' := 90) (ls' := [some (.ref 1), some (.int v1), some (.int v2), some (.int v3), some (.int (Ps_personOf v3)), some (.int (Ps_thingOf v3))]) (st' := [.int ((v3 >>> (2 &&& 31)) &&& 7)]) 5 rfl ?_
    cases h
    exact pmU_T rfl rfl rfl rfl rfl rfl
  refine br_sw h (fun e12 h => ?_) (fun e12 h => ?_)
  · refine pu_sw (v := 111) (tg := 162) e12 rfl rfl rfl ?_
    obtain ⟨g13, h⟩ := gd_in h
    refine pmSeg_U (pc' := 168) (ls' := [some (.ref 1), some (.int v1), some (.int v2), some (.int v3), some (.int (Ps_personOf v3)), some (.int (Ps_thingOf v3))]) (st' := [.int (Ps_thingOf v3), .ref 12]) 3 rfl ?_
    refine pu_iald rfl rfl g13 (shp_iX rfl (by decide)) ?_
    refine pmSeg_U (pc' := 171) (ls' := [some (.ref 1), some (.int v1), some (.int v2), some (.int v3), some (.int (Ps_personOf v3)), some (.int (Ps_thingOf v3))]) (st' := [.int (Ps_personOf v3), .int (σ 12 (Ps_thingOf v3).toNatClampNeg)]) 1 rfl ?_
    refine pu_icmpP (tg := 178) h rfl rfl rfl (fun h => ?_) (fun h => ?_)
    · refine pmSeg_U (pc' := 179) (ls' := [some (.ref 1), some (.int v1), some (.int v2), some (.int v3), some (.int (Ps_personOf v3)), some (.int (Ps_thingOf v3))]) (st' := [.int 0]) 1 rfl ?_
      cases h
      exact pmU_T rfl rfl rfl rfl rfl rfl
    · refine pmSeg_U (pc' := 179) (ls' := [some (.ref 1), some (.int v1), some (.int v2), some (.int v3), some (.int (Ps_personOf v3)), some (.int (Ps_thingOf v3))]) (st' := [.int 1]) 2 rfl ?_
      cases h
      exact pmU_T rfl rfl rfl rfl rfl rfl
  refine pu_tswD (tg := 188) rfl rfl ⟨Or.inr (lv_neT e1 rfl), Or.inr (lv_neT e2 rfl), Or.inl rfl, Or.inl rfl, Or.inr (lv_neT e3 rfl), Or.inr (lv_neT e4 rfl), Or.inr (lv_neT e5 rfl), Or.inl rfl, Or.inl rfl, Or.inl rfl, Or.inr (lv_neT e7 rfl), Or.inr (lv_neT e9 rfl), Or.inr (lv_neT e11 rfl), Or.inr (lv_neT e12 rfl), trivial⟩ rfl ?_
  refine pmSeg_U (pc' := 189) (ls' := [some (.ref 1), some (.int v1), some (.int v2), some (.int v3), some (.int (Ps_personOf v3)), some (.int (Ps_thingOf v3))]) (st' := [.int v2]) 1 rfl ?_
  cases h
  exact pmU_T rfl rfl rfl rfl rfl rfl
