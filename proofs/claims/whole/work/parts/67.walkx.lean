theorem L_Ps_compare {S : pmS} (d : Nat) {v1 : Int32} {σ τ : Mem} {z : Int32 × Mem}  (h : Ps_compare v1 σ = some z) : pmX S (d + 7) 98 [.ref 0, .int v1] (shH σ τ) (some (.int z.1)) (shH z.2 τ) := by
  unfold Ps_compare at h
  refine pmU_X rfl ?_
  refine pmSeg_U (pc' := 1) (ls' := [some (.ref 0), some (.int v1), none]) (st' := [.int v1]) 1 rfl ?_
  refine pu_ifP (tg := 9) h rfl rfl rfl (fun h => ?_) (fun h => ?_)
  · refine pmSeg_U (pc' := 11) (ls' := [some (.ref 0), some (.int v1), none]) (st' := [.int (-2)]) 1 rfl ?_
    cases h
    exact pmU_T rfl rfl rfl rfl rfl rfl
  · refine pmSeg_U (pc' := 6) (ls' := [some (.ref 0), some (.int v1), none]) (st' := [.int 2, .int v1]) 2 rfl ?_
    refine pu_icmpP (tg := 12) h rfl rfl rfl (fun h => ?_) (fun h => ?_)
    · refine pmSeg_U (pc' := 20) (ls' := [some (.ref 0), some (.int v1), none]) (st' := [.ref 13, .ref 17]) 4 rfl ?_
      obtain ⟨q20, hq20, h⟩ := bd_in h
      refine pmU_C (av := [.ref 17, .ref 13]) (rest := []) rfl rfl rfl rfl rfl (L_Se_survey (d + 0) (by decide) hq20) ?_
      refine pmSeg_U (pc' := 31) (ls' := [some (.ref 0), some (.int v1), none]) (st' := [.ref 13, .ref 64]) 4 rfl ?_
      obtain ⟨q31, hq31, h⟩ := bd_in h
      refine pmU_C (av := [.ref 64, .ref 13]) (rest := []) rfl rfl rfl rfl rfl (L_Se_survey (d + 0) (by decide) hq31) ?_
      refine pmSeg_U (pc' := 36) (ls' := [some (.ref 0), some (.int v1), some (.int 0)]) (st' := []) 2 rfl ?_
      exact L_Ps_compare_b36 d FU h
    · refine pmSeg_U (pc' := 11) (ls' := [some (.ref 0), some (.int v1), none]) (st' := [.int (-2)]) 1 rfl ?_
      cases h
      exact pmU_T rfl rfl rfl rfl rfl rfl
theorem L_Ps_needless_b29 {S : pmS} (d : Nat)    : ∀ (n0 : Nat) {v2 : Int32} {v3 : Nat} {v4 : Int32} {σ τ : Mem} {z : Int32 × Mem}, isSe v3 → Ps_needless_b29 n0 v2 v3 v4 σ = some z → pmU S (d + 6) 100 29 [none, none, some (.int v2), some (.ref v3), some (.int v4)] [] (shH σ τ) (some (.int z.1)) (shH z.2 τ) := by
  intro n0
  induction n0 with
  | zero =>
    intro v2 v3 v4 σ τ z hv3 h
    unfold Ps_needless_b29 at h
    cases h
  | succ n1 ih =>
    intro v2 v3 v4 σ τ z hv3 h
    unfold Ps_needless_b29 at h
    refine pmSeg_U (pc' := 33) (ls' := [none, none, some (.int v2), some (.ref v3), some (.int v4)]) (st' := [.int 64, .int v4]) 2 rfl ?_
    refine pu_icmpP (tg := 61) h rfl rfl rfl (fun h => ?_) (fun h => ?_)
    · refine pmSeg_U (pc' := 62) (ls' := [none, none, some (.int v2), some (.ref v3), some (.int v4)]) (st' := [.int 1]) 1 rfl ?_
      cases h
      exact pmU_T rfl rfl rfl rfl rfl rfl
    · refine pmSeg_U (pc' := 40) (ls' := [none, none, some (.int v2), some (.ref v3), some (.int v4)]) (st' := [.int (-1), .int v4, .ref v3]) 3 rfl ?_
      obtain ⟨q40, hq40, h⟩ := bd_in h
      refine pmU_C (av := [.ref v3, .int v4, .int (-1)]) (rest := []) rfl rfl rfl rfl (pmC_virt rfl rfl rfl (Se_k hv3)) (L_Se_allowedBits (d + 5) hv3 hq40) ?_
      refine pmSeg_U (pc' := 47) (ls' := [none, none, some (.int v2), some (.ref v3), some (.int v4)]) (st' := [.int v2, .int v4, .ref v3, .int q40]) 3 rfl ?_
      obtain ⟨q47, hq47, h⟩ := bd_in h
      refine pmU_C (av := [.ref v3, .int v4, .int v2]) (rest := [.int q40]) rfl rfl rfl rfl (pmC_virt rfl rfl rfl (Se_k hv3)) (L_Se_allowedBits (d + 5) hv3 hq47) ?_
      refine pmSeg_U (pc' := 50) (ls' := [none, none, some (.int v2), some (.ref v3), some (.int v4)]) (st' := [.int q47, .int q40]) 0 rfl ?_
      refine pu_icmpP (tg := 55) h rfl rfl rfl (fun h => ?_) (fun h => ?_)
      · refine pmSeg_U (pc' := 29) (ls' := [none, none, some (.int v2), some (.ref v3), some (.int (v4 + 1))]) (st' := []) 2 rfl ?_
        exact ih hv3 h
      · refine pmSeg_U (pc' := 54) (ls' := [none, none, some (.int v2), some (.ref v3), some (.int v4)]) (st' := [.int 0]) 1 rfl ?_
        cases h
        exact pmU_T rfl rfl rfl rfl rfl rfl
theorem L_Ps_needless {S : pmS} (d : Nat) {v1 : Int32} {v2 : Int32} {σ τ : Mem} {z : Int32 × Mem}  (h : Ps_needless v1 v2 σ = some z) : pmX S (d + 7) 100 [.ref 0, .int v1, .int v2] (shH σ τ) (some (.int z.1)) (shH z.2 τ) := by
  unfold Ps_needless at h
  refine pmU_X rfl ?_
  refine pmSeg_U (pc' := 3) (ls' := [some (.ref 0), some (.int v1), some (.int v2), none, none]) (st' := [.int v2, .int v1, .ref 0]) 3 rfl ?_
  obtain ⟨q3, hq3, h⟩ := bd_in h
  refine pmU_C (av := [.ref 0, .int v1, .int v2]) (rest := []) rfl rfl rfl rfl rfl (L_Ps_isPolicy (d + 4) hq3) ?_
  refine pmSeg_U (pc' := 6) (ls' := [some (.ref 0), some (.int v1), some (.int v2), none, none]) (st' := [.int q3]) 0 rfl ?_
  refine pu_ifP (tg := 12) h rfl rfl rfl (fun h => ?_) (fun h => ?_)
  · refine pmSeg_U (pc' := 14) (ls' := [some (.ref 0), some (.int v1), some (.int v2), none, none]) (st' := [.int v1, .ref 0]) 2 rfl ?_
    obtain ⟨q14, hq14, h⟩ := bd_in h
    have K14 := K_Ps_chosen hq14
    refine pmU_C (av := [.ref 0, .int v1]) (rest := []) rfl rfl rfl rfl rfl (L_Ps_chosen (d + 5) hq14) ?_
    refine pmSeg_U (pc' := 23) (ls' := [some (.ref 0), some (.int v1), some (.int v2), some (.ref q14), none]) (st' := [.ref 13, .ref q14]) 4 rfl ?_
    obtain ⟨q23, hq23, h⟩ := bd_in h
    refine pmU_C (av := [.ref q14, .ref 13]) (rest := []) rfl rfl rfl rfl (pmC_virt rfl rfl rfl (Se_k K14)) (L_Se_survey (d + 0) K14 hq23) ?_
    refine pmSeg_U (pc' := 29) (ls' := [some (.ref 0), some (.int v1), some (.int v2), some (.ref q14), some (.int 0)]) (st' := []) 2 rfl ?_
    refine pmU_le (a := [none, none, some (.int v2), some (.ref q14), some (.int 0)]) (le_v rfl (le_v rfl (le_s (le_s (le_s le_nil))))) ?_
    exact L_Ps_needless_b29 d FU K14 h
  · refine pmSeg_U (pc' := 11) (ls' := [some (.ref 0), some (.int v1), some (.int v2), none, none]) (st' := [.int (-2)]) 1 rfl ?_
    cases h
    exact pmU_T rfl rfl rfl rfl rfl rfl
