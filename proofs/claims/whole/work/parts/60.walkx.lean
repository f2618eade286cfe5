def jrcT (s : Nat) : Nat := [47, 48, 49, 50, 51, 58, 60, 61].getD s 0
theorem L_Ps_isKind' {S : pmS} (d : Nat) {v0 : Int32} {h0 : pmH} {z : Int32} (h : Ps_isKind v0 = z) : pmX S (d + 1) 9 [.int v0] h0 (some (.int z)) h0 := by
  unfold Ps_isKind at h
  refine pmU_X rfl ?_
  refine pmSeg_U (pc' := 1) (ls' := [some (.int v0)]) (st' := [.int v0]) 1 rfl ?_
  refine pu_ifP (tg := 13) h rfl rfl rfl (fun h => ?_) (fun h => ?_)
  · refine pmSeg_U (pc' := 14) (ls' := [some (.int v0)]) (st' := [.int 0]) 1 rfl ?_
    cases h
    exact pmU_T rfl rfl rfl rfl rfl rfl
  · refine pmSeg_U (pc' := 6) (ls' := [some (.int v0)]) (st' := [.int 3, .int v0]) 2 rfl ?_
    refine pu_icmpP (tg := 13) h rfl rfl rfl (fun h => ?_) (fun h => ?_)
    · refine pmSeg_U (pc' := 14) (ls' := [some (.int v0)]) (st' := [.int 0]) 1 rfl ?_
      cases h
      exact pmU_T rfl rfl rfl rfl rfl rfl
    · refine pmSeg_U (pc' := 14) (ls' := [some (.int v0)]) (st' := [.int 1]) 2 rfl ?_
      cases h
      exact pmU_T rfl rfl rfl rfl rfl rfl
theorem L_Ps_isKind {S : pmS} (d : Nat) {v0 : Int32} {h0 : pmH} : pmX S (d + 1) 9 [.int v0] h0 (some (.int (Ps_isKind v0))) h0 := L_Ps_isKind' d rfl
theorem bz_Ps_isKind {v0 : Int32} : (Ps_isKind v0 == 0 || Ps_isKind v0 == 1) = true := by
  unfold Ps_isKind
  first | rfl | (split <;> first | rfl | (split <;> first | rfl | (split <;> first | rfl | (split <;> first | rfl | (split <;> first | rfl | (split <;> first | rfl | (split <;> first | rfl | (split <;> first | rfl))))))))
theorem L_Ps_isOne' {S : pmS} (d : Nat) {v0 : Int32} {h0 : pmH} {z : Int32} (h : Ps_isOne v0 = z) : pmX S (d + 1) 10 [.int v0] h0 (some (.int z)) h0 := by
  unfold Ps_isOne at h
  refine pmU_X rfl ?_
  refine pmSeg_U (pc' := 1) (ls' := [some (.int v0)]) (st' := [.int v0]) 1 rfl ?_
  refine pu_ifP (tg := 13) h rfl rfl rfl (fun h => ?_) (fun h => ?_)
  · refine pmSeg_U (pc' := 14) (ls' := [some (.int v0)]) (st' := [.int 0]) 1 rfl ?_
    cases h
    exact pmU_T rfl rfl rfl rfl rfl rfl
  · refine pmSeg_U (pc' := 6) (ls' := [some (.int v0)]) (st' := [.int 4, .int v0]) 2 rfl ?_
    refine pu_icmpP (tg := 13) h rfl rfl rfl (fun h => ?_) (fun h => ?_)
    · refine pmSeg_U (pc' := 14) (ls' := [some (.int v0)]) (st' := [.int 0]) 1 rfl ?_
      cases h
      exact pmU_T rfl rfl rfl rfl rfl rfl
    · refine pmSeg_U (pc' := 14) (ls' := [some (.int v0)]) (st' := [.int 1]) 2 rfl ?_
      cases h
      exact pmU_T rfl rfl rfl rfl rfl rfl
theorem L_Ps_isOne {S : pmS} (d : Nat) {v0 : Int32} {h0 : pmH} : pmX S (d + 1) 10 [.int v0] h0 (some (.int (Ps_isOne v0))) h0 := L_Ps_isOne' d rfl
theorem bz_Ps_isOne {v0 : Int32} : (Ps_isOne v0 == 0 || Ps_isOne v0 == 1) = true := by
  unfold Ps_isOne
  first | rfl | (split <;> first | rfl | (split <;> first | rfl | (split <;> first | rfl | (split <;> first | rfl | (split <;> first | rfl | (split <;> first | rfl | (split <;> first | rfl | (split <;> first | rfl))))))))
theorem L_Ps_hasBit' {S : pmS} (d : Nat) {v0 : Int32} {v1 : Int32} {h0 : pmH} {z : Int32} (h : Ps_hasBit v0 v1 = z) : pmX S (d + 1) 16 [.int v0, .int v1] h0 (some (.int z)) h0 := by
  unfold Ps_hasBit at h
  refine pmU_X rfl ?_
  refine pmSeg_U (pc' := 6) (ls' := [some (.int v0), some (.int v1)]) (st' := [.int 1, .int ((v0 >>> (v1 &&& 31)) &&& 1)]) 6 rfl ?_
  refine pu_icmpP (tg := 13) h rfl rfl rfl (fun h => ?_) (fun h => ?_)
  · refine pmSeg_U (pc' := 14) (ls' := [some (.int v0), some (.int v1)]) (st' := [.int 0]) 1 rfl ?_
    cases h
    exact pmU_T rfl rfl rfl rfl rfl rfl
  · refine pmSeg_U (pc' := 14) (ls' := [some (.int v0), some (.int v1)]) (st' := [.int 1]) 2 rfl ?_
    cases h
    exact pmU_T rfl rfl rfl rfl rfl rfl
theorem L_Ps_hasBit {S : pmS} (d : Nat) {v0 : Int32} {v1 : Int32} {h0 : pmH} : pmX S (d + 1) 16 [.int v0, .int v1] h0 (some (.int (Ps_hasBit v0 v1))) h0 := L_Ps_hasBit' d rfl
theorem bz_Ps_hasBit {v0 : Int32} {v1 : Int32} : (Ps_hasBit v0 v1 == 0 || Ps_hasBit v0 v1 == 1) = true := by
  unfold Ps_hasBit
  first | rfl | (split <;> first | rfl | (split <;> first | rfl | (split <;> first | rfl | (split <;> first | rfl | (split <;> first | rfl | (split <;> first | rfl | (split <;> first | rfl | (split <;> first | rfl))))))))
theorem L_Ne_upward_b12 {S : pmS} (d : Nat)   {k4 : Nat → Int32 → Int32 → Mem → Option Int32} (Hk4 : ∀ {v0 : Nat} {v2 : Int32} {v3 : Int32} {σ τ : Mem} {z : Int32}, isNe v0 → k4 v0 v2 v3 σ = some z → pmU S (d + 1) 15 4 [some (.ref v0), none, some (.int v2), some (.int v3), none] [] (shH σ τ) (some (.int z)) (shH σ τ)) : ∀ (n0 : Nat) {v0 : Nat} {v2 : Int32} {v3 : Int32} {v4 : Int32} {σ τ : Mem} {z : Int32}, isNe v0 → Ne_upward_b12 k4 n0 v0 v2 v3 v4 σ = some z → pmU S (d + 1) 15 12 [some (.ref v0), none, some (.int v2), some (.int v3), some (.int v4)] [] (shH σ τ) (some (.int z)) (shH σ τ) := by
  intro n0
  induction n0 with
  | zero =>
    intro v0 v2 v3 v4 σ τ z hv0 h
    unfold Ne_upward_b12 at h
    cases h
  | succ n1 ih =>
    intro v0 v2 v3 v4 σ τ z hv0 h
    unfold Ne_upward_b12 at h
    refine pmSeg_U (pc' := 15) (ls' := [some (.ref v0), none, some (.int v2), some (.int v3), some (.int v4)]) (st' := [.int 4, .int v4]) 2 rfl ?_
    refine pu_icmpP (tg := 47) h rfl rfl rfl (fun h => ?_) (fun h => ?_)
    · refine pmSeg_U (pc' := 4) (ls' := [some (.ref v0), none, some (.int v2), some (.int (v3 + 1)), some (.int v4)]) (st' := []) 2 rfl ?_
      refine pmU_le (a := [some (.ref v0), none, some (.int v2), some (.int (v3 + 1)), none]) (le_s (le_s (le_s (le_s (le_v rfl le_nil))))) ?_
      exact Hk4 hv0 h
    · refine pmSeg_U (pc' := 22) (ls' := [some (.ref v0), none, some (.int v2), some (.int v3), some (.int v4)]) (st' := [.int v4, .int v2, .int v2]) 3 rfl ?_
      refine pmU_C (av := [.int v2, .int v4]) (rest := [.int v2]) rfl rfl rfl rfl rfl (L_Ps_hasBit (d + 0)) ?_
      refine pmSeg_U (pc' := 25) (ls' := [some (.ref v0), none, some (.int v2), some (.int v3), some (.int v4)]) (st' := [.int (Ps_hasBit v2 v4), .int v2]) 0 rfl ?_
      refine pu_ifP (tg := 38) h rfl rfl rfl (fun h => ?_) (fun h => ?_)
      · refine pmSeg_U (pc' := 12) (ls' := [some (.ref v0), none, some (.int (v2 ||| 0)), some (.int v3), some (.int (v4 + 1))]) (st' := []) 5 rfl ?_
        exact ih hv0 h
      · refine pmSeg_U (pc' := 29) (ls' := [some (.ref v0), none, some (.int v2), some (.int v3), some (.int v4)]) (st' := [.ref v0, .int v2]) 1 rfl ?_
        refine pu_get rfl rfl (Ne_k hv0) (shp_R (Ne_f1 hv0)) ?_
        obtain ⟨g1, h⟩ := gd_in h
        refine pmSeg_U (pc' := 34) (ls' := [some (.ref v0), none, some (.int v2), some (.int v3), some (.int v4)]) (st' := [.int v4, .ref (v0 + 2), .int v2]) 1 rfl ?_
        refine pu_iald rfl (Ne_a2 hv0).1 g1 (shp_iX (fx_A (Ne_a2 hv0)) (Ne_a2 hv0).2) ?_
        refine pmSeg_U (pc' := 12) (ls' := [some (.ref v0), none, some (.int (v2 ||| (σ (v0 + 2) v4.toNatClampNeg))), some (.int v3), some (.int (v4 + 1))]) (st' := []) 5 rfl ?_
        exact ih hv0 h
theorem L_Ne_upward_b4 {S : pmS} (d : Nat)    : ∀ (n0 : Nat) {v0 : Nat} {v2 : Int32} {v3 : Int32} {σ τ : Mem} {z : Int32}, isNe v0 → Ne_upward_b4 n0 v0 v2 v3 σ = some z → pmU S (d + 1) 15 4 [some (.ref v0), none, some (.int v2), some (.int v3), none] [] (shH σ τ) (some (.int z)) (shH σ τ) := by
  intro n0
  induction n0 with
  | zero =>
    intro v0 v2 v3 σ τ z hv0 h
    unfold Ne_upward_b4 at h
    cases h
  | succ n1 ih =>
    intro v0 v2 v3 σ τ z hv0 h
    unfold Ne_upward_b4 at h
    refine pmSeg_U (pc' := 6) (ls' := [some (.ref v0), none, some (.int v2), some (.int v3), none]) (st' := [.int 4, .int v3]) 2 rfl ?_
    refine pu_icmpP (tg := 53) h rfl rfl rfl (fun h => ?_) (fun h => ?_)
    · refine pmSeg_U (pc' := 54) (ls' := [some (.ref v0), none, some (.int v2), some (.int v3), none]) (st' := [.int v2]) 1 rfl ?_
      cases h
      exact pmU_T rfl rfl rfl rfl rfl rfl
    · refine pmSeg_U (pc' := 12) (ls' := [some (.ref v0), none, some (.int v2), some (.int v3), some (.int 0)]) (st' := []) 2 rfl ?_
      exact L_Ne_upward_b12 d ih FU hv0 h
theorem L_Ne_upward {S : pmS} (d : Nat) {v0 : Nat} {v1 : Int32} {σ τ : Mem} {z : Int32} (hv0 : isNe v0) (h : Ne_upward v0 v1 σ = some z) : pmX S (d + 2) 15 [.ref v0, .int v1] (shH σ τ) (some (.int z)) (shH σ τ) := by
  unfold Ne_upward at h
  refine pmU_X rfl ?_
  refine pmSeg_U (pc' := 4) (ls' := [some (.ref v0), some (.int v1), some (.int v1), some (.int 0), none]) (st' := []) 4 rfl ?_
  refine pmU_le (a := [some (.ref v0), none, some (.int v1), some (.int 0), none]) (le_s (le_v rfl (le_s (le_s (le_s le_nil))))) ?_
  exact L_Ne_upward_b4 d FU hv0 h
theorem L_Ne_reach_b2 {S : pmS} (d : Nat)    : ∀ (n0 : Nat) {v0 : Nat} {v1 : Int32} {σ τ : Mem} {z : Mem}, isNe v0 → Ne_reach_b2 n0 v0 v1 σ = some z → pmU S (d + 2) 17 2 [some (.ref v0), some (.int v1)] [] (shH σ τ) none (shH z τ) := by
  intro n0
  induction n0 with
  | zero =>
    intro v0 v1 σ τ z hv0 h
    unfold Ne_reach_b2 at h
    cases h
  | succ n1 ih =>
    intro v0 v1 σ τ z hv0 h
    unfold Ne_reach_b2 at h
    refine pmSeg_U (pc' := 4) (ls' := [some (.ref v0), some (.int v1)]) (st' := [.int 4, .int v1]) 2 rfl ?_
    refine pu_icmpP (tg := 29) h rfl rfl rfl (fun h => ?_) (fun h => ?_)
    · refine pmSeg_U (pc' := 29) (ls' := [some (.ref v0), some (.int v1)]) (st' := []) 0 rfl ?_
      cases h
      exact pmU_T rfl rfl rfl rfl rfl rfl
    · refine pmSeg_U (pc' := 8) (ls' := [some (.ref v0), some (.int v1)]) (st' := [.ref v0]) 1 rfl ?_
      refine pu_get rfl rfl (Ne_k hv0) (shp_R (Ne_f2 hv0)) ?_
      refine pmSeg_U (pc' := 14) (ls' := [some (.ref v0), some (.int v1)]) (st' := [.ref v0, .ref v0, .int v1, .ref (v0 + 3)]) 3 rfl ?_
      refine pu_get rfl rfl (Ne_k hv0) (shp_R (Ne_f0 hv0)) ?_
      obtain ⟨g1, h⟩ := gd_in h
      refine pmSeg_U (pc' := 18) (ls' := [some (.ref v0), some (.int v1)]) (st' := [.int v1, .ref (v0 + 1), .ref v0, .int v1, .ref (v0 + 3)]) 1 rfl ?_
      refine pu_iald rfl (Ne_a1 hv0).1 g1 (shp_iX (fx_A (Ne_a1 hv0)) (Ne_a1 hv0).2) ?_
      refine pmSeg_U (pc' := 19) (ls' := [some (.ref v0), some (.int v1)]) (st' := [.int (σ (v0 + 1) v1.toNatClampNeg), .ref v0, .int v1, .ref (v0 + 3)]) 0 rfl ?_
      obtain ⟨q19, hq19, h⟩ := bd_in h
      refine pmU_C (av := [.ref v0, .int (σ (v0 + 1) v1.toNatClampNeg)]) (rest := [.int v1, .ref (v0 + 3)]) rfl rfl rfl rfl (pmC_virt rfl rfl rfl (Ne_k hv0)) (L_Ne_upward (d + 0) hv0 hq19) ?_
      obtain ⟨g2, h⟩ := gd_in h
      refine pmSeg_U (pc' := 22) (ls' := [some (.ref v0), some (.int v1)]) (st' := [.int q19, .int v1, .ref (v0 + 3)]) 0 rfl ?_
      refine pu_iast rfl (Ne_a3 hv0).1 g2 (shp_pX (fx_A (Ne_a3 hv0)) (Ne_a3 hv0).2) ?_
      refine pmSeg_U (pc' := 2) (ls' := [some (.ref v0), some (.int (v1 + 1))]) (st' := []) 2 rfl ?_
      exact ih hv0 h
theorem L_Ne_reach {S : pmS} (d : Nat) {v0 : Nat} {σ τ : Mem} {z : Mem} (hv0 : isNe v0) (h : Ne_reach v0 σ = some z) : pmX S (d + 3) 17 [.ref v0] (shH σ τ) none (shH z τ) := by
  unfold Ne_reach at h
  refine pmU_X rfl ?_
  refine pmSeg_U (pc' := 2) (ls' := [some (.ref v0), some (.int 0)]) (st' := []) 2 rfl ?_
  exact L_Ne_reach_b2 d FU hv0 h
theorem L_Ne_link_b35 {S : pmS} (d : Nat)    {v0 : Nat} {v2 : Int32} {v3 : Int32} {s0 : Nat} {σ τ : Mem} {z : Int32 × Mem} (hv0 : isNe v0) (hs0 : isA 4 s0) (h : Ne_link_b35 v0 v2 v3 s0 σ = some z) : pmU S (d + 3) 14 35 [some (.ref v0), none, some (.int v2), some (.int v3), none] [.ref s0] (shH σ τ) (some (.int z.1)) (shH z.2 τ) := by
  unfold Ne_link_b35 at h
  obtain ⟨g1, h⟩ := gd_in h
  refine pmSeg_U (pc' := 41) (ls' := [some (.ref v0), none, some (.int v2), some (.int v3), some (.ref s0)]) (st' := [.int v2, .ref s0, .int v2, .ref s0]) 4 rfl ?_
  refine pu_iald rfl hs0.1 g1 (shp_iX (fx_A hs0) hs0.2) ?_
  obtain ⟨g2, h⟩ := gd_in h
  refine pmSeg_U (pc' := 46) (ls' := [some (.ref v0), none, some (.int v2), some (.int v3), some (.ref s0)]) (st' := [.int ((σ s0 v2.toNatClampNeg) ||| (1 <<< (v3 &&& 31))), .int v2, .ref s0]) 4 rfl ?_
  refine pu_iast rfl hs0.1 g2 (shp_pX (fx_A hs0) hs0.2) ?_
  refine pmSeg_U (pc' := 48) (ls' := [some (.ref v0), none, some (.int v2), some (.int v3), some (.ref s0)]) (st' := [.ref v0]) 1 rfl ?_
  obtain ⟨q48, hq48, h⟩ := bd_in h
  refine pmU_C (av := [.ref v0]) (rest := []) rfl rfl rfl rfl (pmC_virt rfl rfl rfl (Ne_k hv0)) (L_Ne_reach (d + 0) hv0 hq48) ?_
  refine pmSeg_U (pc' := 52) (ls' := [some (.ref v0), none, some (.int v2), some (.int v3), some (.ref s0)]) (st' := [.int 1]) 1 rfl ?_
  cases h
  exact pmU_T rfl rfl rfl rfl rfl rfl
theorem L_Ne_link_b20 {S : pmS} (d : Nat)    {v0 : Nat} {v1 : Int32} {v2 : Int32} {v3 : Int32} {σ τ : Mem} {z : Int32 × Mem} (hv0 : isNe v0) (h : Ne_link_b20 v0 v1 v2 v3 σ = some z) : pmU S (d + 3) 14 20 [some (.ref v0), some (.int v1), some (.int v2), some (.int v3), none] [] (shH σ τ) (some (.int z.1)) (shH z.2 τ) := by
  unfold Ne_link_b20 at h
  refine pmSeg_U (pc' := 21) (ls' := [some (.ref v0), some (.int v1), some (.int v2), some (.int v3), none]) (st' := [.int v1]) 1 rfl ?_
  refine pu_ifP (tg := 31) h rfl rfl rfl (fun h => ?_) (fun h => ?_)
  · refine pmSeg_U (pc' := 32) (ls' := [some (.ref v0), some (.int v1), some (.int v2), some (.int v3), none]) (st' := [.ref v0]) 1 rfl ?_
    refine pu_get rfl rfl (Ne_k hv0) (shp_R (Ne_f0 hv0)) ?_
    refine pmSeg_U (pc' := 35) (ls' := [some (.ref v0), some (.int v1), some (.int v2), some (.int v3), none]) (st' := [.ref (v0 + 1)]) 0 rfl ?_
    refine pmU_le (a := [some (.ref v0), none, some (.int v2), some (.int v3), none]) (le_s (le_v rfl (le_s (le_s (le_s le_nil))))) ?_
    exact L_Ne_link_b35 d hv0 (Ne_a1 hv0) h
  · refine pmSeg_U (pc' := 25) (ls' := [some (.ref v0), some (.int v1), some (.int v2), some (.int v3), none]) (st' := [.ref v0]) 1 rfl ?_
    refine pu_get rfl rfl (Ne_k hv0) (shp_R (Ne_f1 hv0)) ?_
    refine pmSeg_U (pc' := 35) (ls' := [some (.ref v0), some (.int v1), some (.int v2), some (.int v3), none]) (st' := [.ref (v0 + 2)]) 1 rfl ?_
    refine pmU_le (a := [some (.ref v0), none, some (.int v2), some (.int v3), none]) (le_s (le_v rfl (le_s (le_s (le_s le_nil))))) ?_
    exact L_Ne_link_b35 d hv0 (Ne_a2 hv0) h
theorem L_Ne_link {S : pmS} (d : Nat) {v0 : Nat} {v1 : Int32} {v2 : Int32} {v3 : Int32} {σ τ : Mem} {z : Int32 × Mem} (hv0 : isNe v0) (h : Ne_link v0 v1 v2 v3 σ = some z) : pmX S (d + 4) 14 [.ref v0, .int v1, .int v2, .int v3] (shH σ τ) (some (.int z.1)) (shH z.2 τ) := by
  unfold Ne_link at h
  refine pmU_X rfl ?_
  refine pmSeg_U (pc' := 1) (ls' := [some (.ref v0), some (.int v1), some (.int v2), some (.int v3), none]) (st' := [.int v1]) 1 rfl ?_
  refine pu_ifP (tg := 20) h rfl rfl rfl (fun h => ?_) (fun h => ?_)
  · refine pmSeg_U (pc' := 20) (ls' := [some (.ref v0), some (.int v1), some (.int v2), some (.int v3), none]) (st' := []) 0 rfl ?_
    exact L_Ne_link_b20 d hv0 h
  · refine pmSeg_U (pc' := 8) (ls' := [some (.ref v0), some (.int v1), some (.int v2), some (.int v3), none]) (st' := [.int (1 <<< (v3 &&& 31)), .ref v0]) 4 rfl ?_
    obtain ⟨q8, hq8, h⟩ := bd_in h
    refine pmU_C (av := [.ref v0, .int (1 <<< (v3 &&& 31))]) (rest := []) rfl rfl rfl rfl (pmC_virt rfl rfl rfl (Ne_k hv0)) (L_Ne_upward (d + 1) hv0 hq8) ?_
    refine pmSeg_U (pc' := 12) (ls' := [some (.ref v0), some (.int v1), some (.int v2), some (.int v3), none]) (st' := [.int v2, .int q8]) 1 rfl ?_
    refine pmU_C (av := [.int q8, .int v2]) (rest := []) rfl rfl rfl rfl rfl (L_Ps_hasBit (d + 2)) ?_
    refine pmSeg_U (pc' := 15) (ls' := [some (.ref v0), some (.int v1), some (.int v2), some (.int v3), none]) (st' := [.int (Ps_hasBit q8 v2)]) 0 rfl ?_
    refine pu_ifP (tg := 20) h rfl rfl rfl (fun h => ?_) (fun h => ?_)
    · refine pmSeg_U (pc' := 20) (ls' := [some (.ref v0), some (.int v1), some (.int v2), some (.int v3), none]) (st' := []) 0 rfl ?_
      exact L_Ne_link_b20 d hv0 h
    · refine pmSeg_U (pc' := 19) (ls' := [some (.ref v0), some (.int v1), some (.int v2), some (.int v3), none]) (st' := [.int 0]) 1 rfl ?_
      cases h
      exact pmU_T rfl rfl rfl rfl rfl rfl
theorem L_Wo_movesHolder' {S : pmS} (d : Nat) {v0 : Int32} {h0 : pmH} {z : Int32} (h : Wo_movesHolder v0 = z) : pmX S (d + 1) 13 [.int v0] h0 (some (.int z)) h0 := by
  unfold Wo_movesHolder at h
  refine pmU_X rfl ?_
  refine pmSeg_U (pc' := 4) (ls' := [some (.int v0)]) (st' := [.int 1, .int (v0 - v0 / 2 * 2)]) 4 rfl ?_
  refine pu_icmpP (tg := 11) h rfl rfl rfl (fun h => ?_) (fun h => ?_)
  · refine pmSeg_U (pc' := 12) (ls' := [some (.int v0)]) (st' := [.int 0]) 1 rfl ?_
    cases h
    exact pmU_T rfl rfl rfl rfl rfl rfl
  · refine pmSeg_U (pc' := 12) (ls' := [some (.int v0)]) (st' := [.int 1]) 2 rfl ?_
    cases h
    exact pmU_T rfl rfl rfl rfl rfl rfl
theorem L_Wo_movesHolder {S : pmS} (d : Nat) {v0 : Int32} {h0 : pmH} : pmX S (d + 1) 13 [.int v0] h0 (some (.int (Wo_movesHolder v0))) h0 := L_Wo_movesHolder' d rfl
theorem bz_Wo_movesHolder {v0 : Int32} : (Wo_movesHolder v0 == 0 || Wo_movesHolder v0 == 1) = true := by
  unfold Wo_movesHolder
  first | rfl | exact bz_Ps_hasBit | (split <;> first | rfl | exact bz_Ps_hasBit | (split <;> first | rfl | exact bz_Ps_hasBit | (split <;> first | rfl | exact bz_Ps_hasBit | (split <;> first | rfl | exact bz_Ps_hasBit | (split <;> first | rfl | exact bz_Ps_hasBit | (split <;> first | rfl | exact bz_Ps_hasBit | (split <;> first | rfl | exact bz_Ps_hasBit | (split <;> first | rfl | exact bz_Ps_hasBit))))))))
theorem K_Wo_nestOf {v1 : Int32} {σ : Mem} {z : Nat}  (h : Wo_nestOf v1 σ = some z) : isNe z := by
  unfold Wo_nestOf at h
  first
  | (split at h <;> (cases h; decide))
  | (obtain ⟨_, h⟩ := gd_in h; obtain ⟨g, h⟩ := gd_in h; cases h; exact g)
theorem L_Wo_nestOf {S : pmS} (d : Nat) {v1 : Int32} {σ τ : Mem} {z : Nat}  (h : Wo_nestOf v1 σ = some z) : pmX S (d + 1) 12 [.ref 1, .int v1] (shH σ τ) (some (.ref z)) (shH σ τ) := by
  unfold Wo_nestOf at h
  refine pmU_X rfl ?_
  refine pmSeg_U (pc' := 2) (ls' := [some (.ref 1), some (.int v1)]) (st' := [.int 2, .int v1]) 2 rfl ?_
  refine pu_icmpP (tg := 12) h rfl rfl rfl (fun h => ?_) (fun h => ?_)
  · refine pmSeg_U (pc' := 16) (ls' := [some (.ref 1), some (.int v1)]) (st' := [.ref 6]) 2 rfl ?_
    cases h
    exact pmU_T rfl rfl rfl rfl rfl rfl
  · refine pmSeg_U (pc' := 16) (ls' := [some (.ref 1), some (.int v1)]) (st' := [.ref 2]) 3 rfl ?_
    cases h
    exact pmU_T rfl rfl rfl rfl rfl rfl
theorem L_Wo_link {S : pmS} (d : Nat) {v1 : Int32} {v2 : Int32} {v3 : Int32} {σ τ : Mem} {z : Int32 × Mem}  (h : Wo_link v1 v2 v3 σ = some z) : pmX S (d + 5) 11 [.ref 1, .int v1, .int v2, .int v3] (shH σ τ) (some (.int z.1)) (shH z.2 τ) := by
  unfold Wo_link at h
  refine pmU_X rfl ?_
  refine pmSeg_U (pc' := 7) (ls' := [some (.ref 1), some (.int v1), some (.int v2), some (.int v3)]) (st' := [.int ((σ 1 5) + 1), .ref 1]) 5 rfl ?_
  refine pu_put rfl rfl rfl rfl rfl (shp_pX rfl (by decide)) ?_
  refine pmSeg_U (pc' := 12) (ls' := [some (.ref 1), some (.int v1), some (.int v2), some (.int v3)]) (st' := [.int v1, .ref 1]) 2 rfl ?_
  obtain ⟨q12, hq12, h⟩ := bd_in h
  have K12 := K_Wo_nestOf hq12
  refine pmU_C (av := [.ref 1, .int v1]) (rest := []) rfl rfl rfl rfl rfl (L_Wo_nestOf (d + 3) hq12) ?_
  refine pmSeg_U (pc' := 16) (ls' := [some (.ref 1), some (.int v1), some (.int v2), some (.int v3)]) (st' := [.int v1, .ref q12]) 1 rfl ?_
  refine pmU_C (av := [.int v1]) (rest := [.ref q12]) rfl rfl rfl rfl rfl (L_Wo_movesHolder (d + 3)) ?_
  refine pmSeg_U (pc' := 21) (ls' := [some (.ref 1), some (.int v1), some (.int v2), some (.int v3)]) (st' := [.int v3, .int v2, .int (Wo_movesHolder v1), .ref q12]) 2 rfl ?_
  obtain ⟨q21, hq21, h⟩ := bd_in h
  refine pmU_C (av := [.ref q12, .int (Wo_movesHolder v1), .int v2, .int v3]) (rest := []) rfl rfl rfl rfl (pmC_virt rfl rfl rfl (Ne_k K12)) (L_Ne_link (d + 0) K12 hq21) ?_
  refine pmSeg_U (pc' := 24) (ls' := [some (.ref 1), some (.int v1), some (.int v2), some (.int v3)]) (st' := [.int q21.1]) 0 rfl ?_
  obtain ⟨g1, h⟩ := gd_in h
  cases h
  exact pu_retZ rfl rfl g1
theorem L_Ps_join {S : pmS} (d : Nat) {v1 : Int32} {v2 : Int32} {v3 : Int32} {σ τ : Mem} {z : Int32 × Mem}  (h : Ps_join v1 v2 v3 σ = some z) : pmX S (d + 6) 8 [.ref 0, .int v1, .int v2, .int v3] (shH σ τ) (some (.int z.1)) (shH z.2 τ) := by
  unfold Ps_join at h
  refine pmU_X rfl ?_
  refine pmSeg_U (pc' := 1) (ls' := [some (.ref 0), some (.int v1), some (.int v2), some (.int v3)]) (st' := [.int v1]) 1 rfl ?_
  refine pmU_C (av := [.int v1]) (rest := []) rfl rfl rfl rfl rfl (L_Ps_isKind (d + 4)) ?_
  refine pmSeg_U (pc' := 4) (ls' := [some (.ref 0), some (.int v1), some (.int v2), some (.int v3)]) (st' := [.int (Ps_isKind v1)]) 0 rfl ?_
  refine pu_ifP (tg := 38) h rfl rfl rfl (fun h => ?_) (fun h => ?_)
  · refine pmSeg_U (pc' := 39) (ls' := [some (.ref 0), some (.int v1), some (.int v2), some (.int v3)]) (st' := [.int 0]) 1 rfl ?_
    cases h
    exact pmU_T rfl rfl rfl rfl rfl rfl
  · refine pmSeg_U (pc' := 8) (ls' := [some (.ref 0), some (.int v1), some (.int v2), some (.int v3)]) (st' := [.int v2]) 1 rfl ?_
    refine pmU_C (av := [.int v2]) (rest := []) rfl rfl rfl rfl rfl (L_Ps_isOne (d + 4)) ?_
    refine pmSeg_U (pc' := 11) (ls' := [some (.ref 0), some (.int v1), some (.int v2), some (.int v3)]) (st' := [.int (Ps_isOne v2)]) 0 rfl ?_
    refine pu_ifP (tg := 38) h rfl rfl rfl (fun h => ?_) (fun h => ?_)
    · refine pmSeg_U (pc' := 39) (ls' := [some (.ref 0), some (.int v1), some (.int v2), some (.int v3)]) (st' := [.int 0]) 1 rfl ?_
      cases h
      exact pmU_T rfl rfl rfl rfl rfl rfl
    · refine pmSeg_U (pc' := 15) (ls' := [some (.ref 0), some (.int v1), some (.int v2), some (.int v3)]) (st' := [.int v3]) 1 rfl ?_
      refine pmU_C (av := [.int v3]) (rest := []) rfl rfl rfl rfl rfl (L_Ps_isOne (d + 4)) ?_
      refine pmSeg_U (pc' := 18) (ls' := [some (.ref 0), some (.int v1), some (.int v2), some (.int v3)]) (st' := [.int (Ps_isOne v3)]) 0 rfl ?_
      refine pu_ifP (tg := 38) h rfl rfl rfl (fun h => ?_) (fun h => ?_)
      · refine pmSeg_U (pc' := 39) (ls' := [some (.ref 0), some (.int v1), some (.int v2), some (.int v3)]) (st' := [.int 0]) 1 rfl ?_
        cases h
        exact pmU_T rfl rfl rfl rfl rfl rfl
      · refine pmSeg_U (pc' := 28) (ls' := [some (.ref 0), some (.int v1), some (.int v2), some (.int v3)]) (st' := [.int v3, .int v2, .int v1, .ref 1]) 5 rfl ?_
        obtain ⟨q28, hq28, h⟩ := bd_in h
        refine pmU_C (av := [.ref 1, .int v1, .int v2, .int v3]) (rest := []) rfl rfl rfl rfl rfl (L_Wo_link (d + 0) hq28) ?_
        refine pmSeg_U (pc' := 31) (ls' := [some (.ref 0), some (.int v1), some (.int v2), some (.int v3)]) (st' := [.int q28.1]) 0 rfl ?_
        refine pu_ifP (tg := 38) h rfl rfl rfl (fun h => ?_) (fun h => ?_)
        · refine pmSeg_U (pc' := 39) (ls' := [some (.ref 0), some (.int v1), some (.int v2), some (.int v3)]) (st' := [.int 0]) 1 rfl ?_
          cases h
          exact pmU_T rfl rfl rfl rfl rfl rfl
        · refine pmSeg_U (pc' := 39) (ls' := [some (.ref 0), some (.int v1), some (.int v2), some (.int v3)]) (st' := [.int 1]) 2 rfl ?_
          cases h
          exact pmU_T rfl rfl rfl rfl rfl rfl
theorem L_Ne_unlink_b15 {S : pmS} (d : Nat)    {v0 : Nat} {v2 : Int32} {v3 : Int32} {s0 : Nat} {σ τ : Mem} {z : Int32 × Mem} (hv0 : isNe v0) (hs0 : isA 4 s0) (h : Ne_unlink_b15 v0 v2 v3 s0 σ = some z) : pmU S (d + 3) 20 15 [some (.ref v0), none, some (.int v2), some (.int v3), none, none] [.ref s0] (shH σ τ) (some (.int z.1)) (shH z.2 τ) := by
  unfold Ne_unlink_b15 at h
  obtain ⟨g1, h⟩ := gd_in h
  refine pmSeg_U (pc' := 20) (ls' := [some (.ref v0), none, some (.int v2), some (.int v3), some (.ref s0), none]) (st' := [.int v2, .ref s0]) 3 rfl ?_
  refine pu_iald rfl hs0.1 g1 (shp_iX (fx_A hs0) hs0.2) ?_
  refine pmSeg_U (pc' := 22) (ls' := [some (.ref v0), none, some (.int v2), some (.int v3), some (.ref s0), none]) (st' := [.int v3, .int (σ s0 v2.toNatClampNeg)]) 1 rfl ?_
  refine pmU_C (av := [.int (σ s0 v2.toNatClampNeg), .int v3]) (rest := []) rfl rfl rfl rfl rfl (L_Ps_hasBit (d + 2)) ?_
  obtain ⟨g2, h⟩ := gd_in h
  refine pmSeg_U (pc' := 31) (ls' := [some (.ref v0), none, some (.int v2), some (.int v3), some (.ref s0), some (.int (Ps_hasBit (σ s0 v2.toNatClampNeg) v3))]) (st' := [.int v2, .ref s0, .int v2, .ref s0]) 4 rfl ?_
  refine pu_iald rfl hs0.1 g2 (shp_iX (fx_A hs0) hs0.2) ?_
  obtain ⟨g3, h⟩ := gd_in h
  refine pmSeg_U (pc' := 38) (ls' := [some (.ref v0), none, some (.int v2), some (.int v3), some (.ref s0), some (.int (Ps_hasBit (σ s0 v2.toNatClampNeg) v3))]) (st' := [.int ((σ s0 v2.toNatClampNeg) &&& ((1 <<< (v3 &&& 31)) ^^^ (-1))), .int v2, .ref s0]) 6 rfl ?_
  refine pu_iast rfl hs0.1 g3 (shp_pX (fx_A hs0) hs0.2) ?_
  refine pmSeg_U (pc' := 40) (ls' := [some (.ref v0), none, some (.int v2), some (.int v3), some (.ref s0), some (.int (Ps_hasBit (σ s0 v2.toNatClampNeg) v3))]) (st' := [.ref v0]) 1 rfl ?_
  obtain ⟨q40, hq40, h⟩ := bd_in h
  refine pmU_C (av := [.ref v0]) (rest := []) rfl rfl rfl rfl (pmC_virt rfl rfl rfl (Ne_k hv0)) (L_Ne_reach (d + 0) hv0 hq40) ?_
  refine pmSeg_U (pc' := 45) (ls' := [some (.ref v0), none, some (.int v2), some (.int v3), some (.ref s0), some (.int (Ps_hasBit (σ s0 v2.toNatClampNeg) v3))]) (st' := [.int (Ps_hasBit (σ s0 v2.toNatClampNeg) v3)]) 1 rfl ?_
  obtain ⟨g4, h⟩ := gd_in h
  cases h
  exact pu_retZ rfl rfl g4
theorem L_Ne_unlink {S : pmS} (d : Nat) {v0 : Nat} {v1 : Int32} {v2 : Int32} {v3 : Int32} {σ τ : Mem} {z : Int32 × Mem} (hv0 : isNe v0) (h : Ne_unlink v0 v1 v2 v3 σ = some z) : pmX S (d + 4) 20 [.ref v0, .int v1, .int v2, .int v3] (shH σ τ) (some (.int z.1)) (shH z.2 τ) := by
  unfold Ne_unlink at h
  refine pmU_X rfl ?_
  refine pmSeg_U (pc' := 1) (ls' := [some (.ref v0), some (.int v1), some (.int v2), some (.int v3), none, none]) (st' := [.int v1]) 1 rfl ?_
  refine pu_ifP (tg := 11) h rfl rfl rfl (fun h => ?_) (fun h => ?_)
  · refine pmSeg_U (pc' := 12) (ls' := [some (.ref v0), some (.int v1), some (.int v2), some (.int v3), none, none]) (st' := [.ref v0]) 1 rfl ?_
    refine pu_get rfl rfl (Ne_k hv0) (shp_R (Ne_f0 hv0)) ?_
    refine pmSeg_U (pc' := 15) (ls' := [some (.ref v0), some (.int v1), some (.int v2), some (.int v3), none, none]) (st' := [.ref (v0 + 1)]) 0 rfl ?_
    refine pmU_le (a := [some (.ref v0), none, some (.int v2), some (.int v3), none, none]) (le_s (le_v rfl (le_s (le_s (le_s (le_s le_nil)))))) ?_
    exact L_Ne_unlink_b15 d hv0 (Ne_a1 hv0) h
  · refine pmSeg_U (pc' := 5) (ls' := [some (.ref v0), some (.int v1), some (.int v2), some (.int v3), none, none]) (st' := [.ref v0]) 1 rfl ?_
    refine pu_get rfl rfl (Ne_k hv0) (shp_R (Ne_f1 hv0)) ?_
    refine pmSeg_U (pc' := 15) (ls' := [some (.ref v0), some (.int v1), some (.int v2), some (.int v3), none, none]) (st' := [.ref (v0 + 2)]) 1 rfl ?_
    refine pmU_le (a := [some (.ref v0), none, some (.int v2), some (.int v3), none, none]) (le_s (le_v rfl (le_s (le_s (le_s (le_s le_nil)))))) ?_
    exact L_Ne_unlink_b15 d hv0 (Ne_a2 hv0) h
theorem L_Wo_unlink {S : pmS} (d : Nat) {v1 : Int32} {v2 : Int32} {v3 : Int32} {σ τ : Mem} {z : Int32 × Mem}  (h : Wo_unlink v1 v2 v3 σ = some z) : pmX S (d + 5) 19 [.ref 1, .int v1, .int v2, .int v3] (shH σ τ) (some (.int z.1)) (shH z.2 τ) := by
  unfold Wo_unlink at h
  refine pmU_X rfl ?_
  refine pmSeg_U (pc' := 7) (ls' := [some (.ref 1), some (.int v1), some (.int v2), some (.int v3)]) (st' := [.int ((σ 1 5) + 1), .ref 1]) 5 rfl ?_
  refine pu_put rfl rfl rfl rfl rfl (shp_pX rfl (by decide)) ?_
  refine pmSeg_U (pc' := 12) (ls' := [some (.ref 1), some (.int v1), some (.int v2), some (.int v3)]) (st' := [.int v1, .ref 1]) 2 rfl ?_
  obtain ⟨q12, hq12, h⟩ := bd_in h
  have K12 := K_Wo_nestOf hq12
  refine pmU_C (av := [.ref 1, .int v1]) (rest := []) rfl rfl rfl rfl rfl (L_Wo_nestOf (d + 3) hq12) ?_
  refine pmSeg_U (pc' := 16) (ls' := [some (.ref 1), some (.int v1), some (.int v2), some (.int v3)]) (st' := [.int v1, .ref q12]) 1 rfl ?_
  refine pmU_C (av := [.int v1]) (rest := [.ref q12]) rfl rfl rfl rfl rfl (L_Wo_movesHolder (d + 3)) ?_
  refine pmSeg_U (pc' := 21) (ls' := [some (.ref 1), some (.int v1), some (.int v2), some (.int v3)]) (st' := [.int v3, .int v2, .int (Wo_movesHolder v1), .ref q12]) 2 rfl ?_
  obtain ⟨q21, hq21, h⟩ := bd_in h
  refine pmU_C (av := [.ref q12, .int (Wo_movesHolder v1), .int v2, .int v3]) (rest := []) rfl rfl rfl rfl (pmC_virt rfl rfl rfl (Ne_k K12)) (L_Ne_unlink (d + 0) K12 hq21) ?_
  refine pmSeg_U (pc' := 24) (ls' := [some (.ref 1), some (.int v1), some (.int v2), some (.int v3)]) (st' := [.int q21.1]) 0 rfl ?_
  obtain ⟨g1, h⟩ := gd_in h
  cases h
  exact pu_retZ rfl rfl g1
theorem L_Ps_leave {S : pmS} (d : Nat) {v1 : Int32} {v2 : Int32} {v3 : Int32} {σ τ : Mem} {z : Int32 × Mem}  (h : Ps_leave v1 v2 v3 σ = some z) : pmX S (d + 6) 18 [.ref 0, .int v1, .int v2, .int v3] (shH σ τ) (some (.int z.1)) (shH z.2 τ) := by
  unfold Ps_leave at h
  refine pmU_X rfl ?_
  refine pmSeg_U (pc' := 1) (ls' := [some (.ref 0), some (.int v1), some (.int v2), some (.int v3)]) (st' := [.int v1]) 1 rfl ?_
  refine pmU_C (av := [.int v1]) (rest := []) rfl rfl rfl rfl rfl (L_Ps_isKind (d + 4)) ?_
  refine pmSeg_U (pc' := 4) (ls' := [some (.ref 0), some (.int v1), some (.int v2), some (.int v3)]) (st' := [.int (Ps_isKind v1)]) 0 rfl ?_
  refine pu_ifP (tg := 38) h rfl rfl rfl (fun h => ?_) (fun h => ?_)
  · refine pmSeg_U (pc' := 39) (ls' := [some (.ref 0), some (.int v1), some (.int v2), some (.int v3)]) (st' := [.int 0]) 1 rfl ?_
    cases h
    exact pmU_T rfl rfl rfl rfl rfl rfl
  · refine pmSeg_U (pc' := 8) (ls' := [some (.ref 0), some (.int v1), some (.int v2), some (.int v3)]) (st' := [.int v2]) 1 rfl ?_
    refine pmU_C (av := [.int v2]) (rest := []) rfl rfl rfl rfl rfl (L_Ps_isOne (d + 4)) ?_
    refine pmSeg_U (pc' := 11) (ls' := [some (.ref 0), some (.int v1), some (.int v2), some (.int v3)]) (st' := [.int (Ps_isOne v2)]) 0 rfl ?_
    refine pu_ifP (tg := 38) h rfl rfl rfl (fun h => ?_) (fun h => ?_)
    · refine pmSeg_U (pc' := 39) (ls' := [some (.ref 0), some (.int v1), some (.int v2), some (.int v3)]) (st' := [.int 0]) 1 rfl ?_
      cases h
      exact pmU_T rfl rfl rfl rfl rfl rfl
    · refine pmSeg_U (pc' := 15) (ls' := [some (.ref 0), some (.int v1), some (.int v2), some (.int v3)]) (st' := [.int v3]) 1 rfl ?_
      refine pmU_C (av := [.int v3]) (rest := []) rfl rfl rfl rfl rfl (L_Ps_isOne (d + 4)) ?_
      refine pmSeg_U (pc' := 18) (ls' := [some (.ref 0), some (.int v1), some (.int v2), some (.int v3)]) (st' := [.int (Ps_isOne v3)]) 0 rfl ?_
      refine pu_ifP (tg := 38) h rfl rfl rfl (fun h => ?_) (fun h => ?_)
      · refine pmSeg_U (pc' := 39) (ls' := [some (.ref 0), some (.int v1), some (.int v2), some (.int v3)]) (st' := [.int 0]) 1 rfl ?_
        cases h
        exact pmU_T rfl rfl rfl rfl rfl rfl
      · refine pmSeg_U (pc' := 28) (ls' := [some (.ref 0), some (.int v1), some (.int v2), some (.int v3)]) (st' := [.int v3, .int v2, .int v1, .ref 1]) 5 rfl ?_
        obtain ⟨q28, hq28, h⟩ := bd_in h
        refine pmU_C (av := [.ref 1, .int v1, .int v2, .int v3]) (rest := []) rfl rfl rfl rfl rfl (L_Wo_unlink (d + 0) hq28) ?_
        refine pmSeg_U (pc' := 31) (ls' := [some (.ref 0), some (.int v1), some (.int v2), some (.int v3)]) (st' := [.int q28.1]) 0 rfl ?_
        refine pu_ifP (tg := 38) h rfl rfl rfl (fun h => ?_) (fun h => ?_)
        · refine pmSeg_U (pc' := 39) (ls' := [some (.ref 0), some (.int v1), some (.int v2), some (.int v3)]) (st' := [.int 0]) 1 rfl ?_
          cases h
          exact pmU_T rfl rfl rfl rfl rfl rfl
        · refine pmSeg_U (pc' := 39) (ls' := [some (.ref 0), some (.int v1), some (.int v2), some (.int v3)]) (st' := [.int 1]) 2 rfl ?_
          cases h
          exact pmU_T rfl rfl rfl rfl rfl rfl
theorem L_Ps_isNumber' {S : pmS} (d : Nat) {v0 : Int32} {h0 : pmH} {z : Int32} (h : Ps_isNumber v0 = z) : pmX S (d + 1) 22 [.int v0] h0 (some (.int z)) h0 := by
  unfold Ps_isNumber at h
  refine pmU_X rfl ?_
  refine pmSeg_U (pc' := 1) (ls' := [some (.int v0)]) (st' := [.int v0]) 1 rfl ?_
  refine pu_ifP (tg := 14) h rfl rfl rfl (fun h => ?_) (fun h => ?_)
  · refine pmSeg_U (pc' := 15) (ls' := [some (.int v0)]) (st' := [.int 0]) 1 rfl ?_
    cases h
    exact pmU_T rfl rfl rfl rfl rfl rfl
  · refine pmSeg_U (pc' := 7) (ls' := [some (.int v0)]) (st' := [.int 7, .int v0]) 2 rfl ?_
    refine pu_icmpP (tg := 14) h rfl rfl rfl (fun h => ?_) (fun h => ?_)
    · refine pmSeg_U (pc' := 15) (ls' := [some (.int v0)]) (st' := [.int 0]) 1 rfl ?_
      cases h
      exact pmU_T rfl rfl rfl rfl rfl rfl
    · refine pmSeg_U (pc' := 15) (ls' := [some (.int v0)]) (st' := [.int 1]) 2 rfl ?_
      cases h
      exact pmU_T rfl rfl rfl rfl rfl rfl
theorem L_Ps_isNumber {S : pmS} (d : Nat) {v0 : Int32} {h0 : pmH} : pmX S (d + 1) 22 [.int v0] h0 (some (.int (Ps_isNumber v0))) h0 := L_Ps_isNumber' d rfl
theorem bz_Ps_isNumber {v0 : Int32} : (Ps_isNumber v0 == 0 || Ps_isNumber v0 == 1) = true := by
  unfold Ps_isNumber
  first | rfl | exact bz_Ps_hasBit | (split <;> first | rfl | exact bz_Ps_hasBit | (split <;> first | rfl | exact bz_Ps_hasBit | (split <;> first | rfl | exact bz_Ps_hasBit | (split <;> first | rfl | exact bz_Ps_hasBit | (split <;> first | rfl | exact bz_Ps_hasBit | (split <;> first | rfl | exact bz_Ps_hasBit | (split <;> first | rfl | exact bz_Ps_hasBit | (split <;> first | rfl | exact bz_Ps_hasBit))))))))
theorem L_Wo_setMark {S : pmS} (d : Nat) {v1 : Int32} {v2 : Int32} {v3 : Int32} {σ τ : Mem} {z : Mem}  (h : Wo_setMark v1 v2 v3 σ = some z) : pmX S (d + 1) 23 [.ref 1, .int v1, .int v2, .int v3] (shH σ τ) none (shH z τ) := by
  unfold Wo_setMark at h
  refine pmU_X rfl ?_
  refine pmSeg_U (pc' := 7) (ls' := [some (.ref 1), some (.int v1), some (.int v2), some (.int v3)]) (st' := [.int ((σ 1 5) + 1), .ref 1]) 5 rfl ?_
  refine pu_put rfl rfl rfl rfl rfl (shp_pX rfl (by decide)) ?_
  obtain ⟨g1, h⟩ := gd_in h
  refine pmSeg_U (pc' := 20) (ls' := [some (.ref 1), some (.int v1), some (.int v2), some (.int v3)]) (st' := [.int v3, .int ((v1 * 4) + v2), .ref 10]) 8 rfl ?_
  refine pu_iast rfl rfl g1 (shp_pX rfl (by decide)) ?_
  refine pmSeg_U (pc' := 21) (ls' := [some (.ref 1), some (.int v1), some (.int v2), some (.int v3)]) (st' := []) 0 rfl ?_
  cases h
  exact pmU_T rfl rfl rfl rfl rfl rfl
theorem L_Ps_mark_b31 {S : pmS} (d : Nat)    {v1 : Int32} {v2 : Int32} {v3 : Int32} {s0 : Int32} {σ τ : Mem} {z : Int32 × Mem}  (h : Ps_mark_b31 v1 v2 v3 s0 σ = some z) : pmU S (d + 1) 21 31 [some (.ref 0), some (.int v1), some (.int v2), some (.int v3), none] [.int s0] (shH σ τ) (some (.int z.1)) (shH z.2 τ) := by
  unfold Ps_mark_b31 at h
  refine pmSeg_U (pc' := 35) (ls' := [some (.ref 0), some (.int v1), some (.int v2), some (.int v3), some (.int s0)]) (st' := [.int s0]) 2 rfl ?_
  refine pu_ifP (tg := 48) h rfl rfl rfl (fun h => ?_) (fun h => ?_)
  · refine pmSeg_U (pc' := 50) (ls' := [some (.ref 0), some (.int v1), some (.int v2), some (.int v3), some (.int s0)]) (st' := [.int s0]) 1 rfl ?_
    obtain ⟨g1, h⟩ := gd_in h
    cases h
    exact pu_retZ rfl rfl g1
  · refine pmSeg_U (pc' := 45) (ls' := [some (.ref 0), some (.int v1), some (.int v2), some (.int v3), some (.int s0)]) (st' := [.int v3, .int v2, .int v1, .ref 1]) 5 rfl ?_
    obtain ⟨q45, hq45, h⟩ := bd_in h
    refine pmU_C (av := [.ref 1, .int v1, .int v2, .int v3]) (rest := []) rfl rfl rfl rfl rfl (L_Wo_setMark (d + 0) hq45) ?_
    refine pmSeg_U (pc' := 50) (ls' := [some (.ref 0), some (.int v1), some (.int v2), some (.int v3), some (.int s0)]) (st' := [.int s0]) 1 rfl ?_
    obtain ⟨g2, h⟩ := gd_in h
    cases h
    exact pu_retZ rfl rfl g2
theorem L_Ps_mark_b30 {S : pmS} (d : Nat)    {v1 : Int32} {v2 : Int32} {v3 : Int32} {σ τ : Mem} {z : Int32 × Mem}  (h : Ps_mark_b30 v1 v2 v3 σ = some z) : pmU S (d + 1) 21 30 [some (.ref 0), some (.int v1), some (.int v2), some (.int v3), none] [] (shH σ τ) (some (.int z.1)) (shH z.2 τ) := by
  unfold Ps_mark_b30 at h
  refine pmSeg_U (pc' := 31) (ls' := [some (.ref 0), some (.int v1), some (.int v2), some (.int v3), none]) (st' := [.int 0]) 1 rfl ?_
  exact L_Ps_mark_b31 d h
theorem L_Ps_mark_b26 {S : pmS} (d : Nat)    {v1 : Int32} {v2 : Int32} {v3 : Int32} {σ τ : Mem} {z : Int32 × Mem}  (h : Ps_mark_b26 v1 v2 v3 σ = some z) : pmU S (d + 1) 21 26 [some (.ref 0), some (.int v1), some (.int v2), some (.int v3), none] [] (shH σ τ) (some (.int z.1)) (shH z.2 τ) := by
  unfold Ps_mark_b26 at h
  refine pmSeg_U (pc' := 31) (ls' := [some (.ref 0), some (.int v1), some (.int v2), some (.int v3), none]) (st' := [.int 1]) 2 rfl ?_
  exact L_Ps_mark_b31 d h
theorem L_Ps_mark {S : pmS} (d : Nat) {v1 : Int32} {v2 : Int32} {v3 : Int32} {σ τ : Mem} {z : Int32 × Mem}  (h : Ps_mark v1 v2 v3 σ = some z) : pmX S (d + 2) 21 [.ref 0, .int v1, .int v2, .int v3] (shH σ τ) (some (.int z.1)) (shH z.2 τ) := by
  unfold Ps_mark at h
  refine pmU_X rfl ?_
  refine pmSeg_U (pc' := 1) (ls' := [some (.ref 0), some (.int v1), some (.int v2), some (.int v3), none]) (st' := [.int v1]) 1 rfl ?_
  refine pmU_C (av := [.int v1]) (rest := []) rfl rfl rfl rfl rfl (L_Ps_isOne (d + 0)) ?_
  refine pmSeg_U (pc' := 4) (ls' := [some (.ref 0), some (.int v1), some (.int v2), some (.int v3), none]) (st' := [.int (Ps_isOne v1)]) 0 rfl ?_
  refine pu_ifP (tg := 30) h rfl rfl rfl (fun h => ?_) (fun h => ?_)
  · refine pmSeg_U (pc' := 30) (ls' := [some (.ref 0), some (.int v1), some (.int v2), some (.int v3), none]) (st' := []) 0 rfl ?_
    exact L_Ps_mark_b30 d h
  · refine pmSeg_U (pc' := 8) (ls' := [some (.ref 0), some (.int v1), some (.int v2), some (.int v3), none]) (st' := [.int v2]) 1 rfl ?_
    refine pmU_C (av := [.int v2]) (rest := []) rfl rfl rfl rfl rfl (L_Ps_isOne (d + 0)) ?_
    refine pmSeg_U (pc' := 11) (ls' := [some (.ref 0), some (.int v1), some (.int v2), some (.int v3), none]) (st' := [.int (Ps_isOne v2)]) 0 rfl ?_
    refine pu_ifP (tg := 30) h rfl rfl rfl (fun h => ?_) (fun h => ?_)
    · refine pmSeg_U (pc' := 30) (ls' := [some (.ref 0), some (.int v1), some (.int v2), some (.int v3), none]) (st' := []) 0 rfl ?_
      exact L_Ps_mark_b30 d h
    · refine pmSeg_U (pc' := 16) (ls' := [some (.ref 0), some (.int v1), some (.int v2), some (.int v3), none]) (st' := [.int (-1), .int v3]) 2 rfl ?_
      refine pu_icmpP (tg := 26) h rfl rfl rfl (fun h => ?_) (fun h => ?_)
      · refine pmSeg_U (pc' := 26) (ls' := [some (.ref 0), some (.int v1), some (.int v2), some (.int v3), none]) (st' := []) 0 rfl ?_
        exact L_Ps_mark_b26 d h
      · refine pmSeg_U (pc' := 20) (ls' := [some (.ref 0), some (.int v1), some (.int v2), some (.int v3), none]) (st' := [.int v3]) 1 rfl ?_
        refine pmU_C (av := [.int v3]) (rest := []) rfl rfl rfl rfl rfl (L_Ps_isNumber (d + 0)) ?_
        refine pmSeg_U (pc' := 23) (ls' := [some (.ref 0), some (.int v1), some (.int v2), some (.int v3), none]) (st' := [.int (Ps_isNumber v3)]) 0 rfl ?_
        refine pu_ifP (tg := 30) h rfl rfl rfl (fun h => ?_) (fun h => ?_)
        · refine pmSeg_U (pc' := 30) (ls' := [some (.ref 0), some (.int v1), some (.int v2), some (.int v3), none]) (st' := []) 0 rfl ?_
          exact L_Ps_mark_b30 d h
        · refine pmSeg_U (pc' := 26) (ls' := [some (.ref 0), some (.int v1), some (.int v2), some (.int v3), none]) (st' := []) 0 rfl ?_
          exact L_Ps_mark_b26 d h
theorem L_Wo_setThing {S : pmS} (d : Nat) {v1 : Int32} {v2 : Int32} {v3 : Int32} {σ τ : Mem} {z : Mem}  (h : Wo_setThing v1 v2 v3 σ = some z) : pmX S (d + 1) 25 [.ref 1, .int v1, .int v2, .int v3] (shH σ τ) none (shH z τ) := by
  unfold Wo_setThing at h
  refine pmU_X rfl ?_
  refine pmSeg_U (pc' := 7) (ls' := [some (.ref 1), some (.int v1), some (.int v2), some (.int v3)]) (st' := [.int ((σ 1 5) + 1), .ref 1]) 5 rfl ?_
  refine pu_put rfl rfl rfl rfl rfl (shp_pX rfl (by decide)) ?_
  obtain ⟨g1, h⟩ := gd_in h
  refine pmSeg_U (pc' := 16) (ls' := [some (.ref 1), some (.int v1), some (.int v2), some (.int v3)]) (st' := [.int v2, .int v1, .ref 11]) 4 rfl ?_
  refine pu_iast rfl rfl g1 (shp_pX rfl (by decide)) ?_
  obtain ⟨g2, h⟩ := gd_in h
  refine pmSeg_U (pc' := 23) (ls' := [some (.ref 1), some (.int v1), some (.int v2), some (.int v3)]) (st' := [.int v3, .int v1, .ref 12]) 4 rfl ?_
  refine pu_iast rfl rfl g2 (shp_pX rfl (by decide)) ?_
  refine pmSeg_U (pc' := 24) (ls' := [some (.ref 1), some (.int v1), some (.int v2), some (.int v3)]) (st' := []) 0 rfl ?_
  cases h
  exact pmU_T rfl rfl rfl rfl rfl rfl
