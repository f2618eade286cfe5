theorem L_Mo_is' {S : pmS} (d : Nat) {v0 : Int32} {v1 : Int32} {h0 : pmH} {z : Int32} (h : Mo_is v0 v1 = z) : pmX S (d + 1) 103 [.int v0, .int v1] h0 (some (.int z)) h0 := by
  unfold Mo_is at h
  refine pmU_X rfl ?_
  refine pmSeg_U (pc' := 1) (ls' := [some (.int v0), some (.int v1)]) (st' := [.int v0]) 1 rfl ?_
  refine pu_ifP (tg := 13) h rfl rfl rfl (fun h => ?_) (fun h => ?_)
  · refine pmSeg_U (pc' := 14) (ls' := [some (.int v0), some (.int v1)]) (st' := [.int 0]) 1 rfl ?_
    cases h
    exact pmU_T rfl rfl rfl rfl rfl rfl
  · refine pmSeg_U (pc' := 6) (ls' := [some (.int v0), some (.int v1)]) (st' := [.int v1, .int v0]) 2 rfl ?_
    refine pu_icmpP (tg := 13) h rfl rfl rfl (fun h => ?_) (fun h => ?_)
    · refine pmSeg_U (pc' := 14) (ls' := [some (.int v0), some (.int v1)]) (st' := [.int 0]) 1 rfl ?_
      cases h
      exact pmU_T rfl rfl rfl rfl rfl rfl
    · refine pmSeg_U (pc' := 14) (ls' := [some (.int v0), some (.int v1)]) (st' := [.int 1]) 2 rfl ?_
      cases h
      exact pmU_T rfl rfl rfl rfl rfl rfl
theorem L_Mo_is {S : pmS} (d : Nat) {v0 : Int32} {v1 : Int32} {h0 : pmH} : pmX S (d + 1) 103 [.int v0, .int v1] h0 (some (.int (Mo_is v0 v1))) h0 := L_Mo_is' d rfl
theorem bz_Mo_is {v0 : Int32} {v1 : Int32} : (Mo_is v0 v1 == 0 || Mo_is v0 v1 == 1) = true := by
  unfold Mo_is
  first | rfl | (split <;> first | rfl | (split <;> first | rfl | (split <;> first | rfl | (split <;> first | rfl | (split <;> first | rfl | (split <;> first | rfl | (split <;> first | rfl | (split <;> first | rfl))))))))
theorem L_Mo_within_b36 {S : pmS} (d : Nat)   {k27 : Int32 → Int32 → Int32 → Mem → Option Int32} (Hk27 : ∀ {v3 : Int32} {v4 : Int32} {v5 : Int32} {σ τ : Mem} {z : Int32}, k27 v3 v4 v5 σ = some z → pmU S (d + 0) 104 27 [some (.ref 112), none, none, some (.int v3), some (.int v4), some (.int v5), none] [] (shH τ σ) (some (.int z)) (shH τ σ)) : ∀ (n0 : Nat) {v3 : Int32} {v4 : Int32} {v5 : Int32} {v6 : Int32} {σ τ : Mem} {z : Int32}, Mo_within_b36 k27 n0 v3 v4 v5 v6 σ = some z → pmU S (d + 0) 104 36 [some (.ref 112), none, none, some (.int v3), some (.int v4), some (.int v5), some (.int v6)] [] (shH τ σ) (some (.int z)) (shH τ σ) := by
  intro n0
  induction n0 with
  | zero =>
    intro v3 v4 v5 v6 σ τ z  h
    unfold Mo_within_b36 at h
    cases h
  | succ n1 ih =>
    intro v3 v4 v5 v6 σ τ z  h
    unfold Mo_within_b36 at h
    refine pmSeg_U (pc' := 39) (ls' := [some (.ref 112), none, none, some (.int v3), some (.int v4), some (.int v5), some (.int v6)]) (st' := [.int 4, .int v6]) 2 rfl ?_
    refine pu_icmpP (tg := 75) h rfl rfl rfl (fun h => ?_) (fun h => ?_)
    · refine pmSeg_U (pc' := 27) (ls' := [some (.ref 112), none, none, some (.int v3), some (.int v4), some (.int (v5 + 1)), some (.int v6)]) (st' := []) 2 rfl ?_
      refine pmU_le (a := [some (.ref 112), none, none, some (.int v3), some (.int v4), some (.int (v5 + 1)), none]) (le_s (le_s (le_s (le_s (le_s (le_s (le_v rfl le_nil))))))) ?_
      exact Hk27 h
    · refine pmSeg_U (pc' := 49) (ls' := [some (.ref 112), none, none, some (.int v3), some (.int v4), some (.int v5), some (.int v6)]) (st' := [.int 1, .int ((v3 >>> (v6 &&& 31)) &&& 1)]) 6 rfl ?_
      refine pu_icmpP (tg := 67) h rfl rfl rfl (fun h => ?_) (fun h => ?_)
      · refine pmSeg_U (pc' := 36) (ls' := [some (.ref 112), none, none, some (.int v3), some (.int v4), some (.int v5), some (.int (v6 + 1))]) (st' := []) 4 rfl ?_
        exact ih h
      · obtain ⟨g1, h⟩ := gd_in h
        refine pmSeg_U (pc' := 62) (ls' := [some (.ref 112), none, none, some (.int v3), some (.int v4), some (.int v5), some (.int v6)]) (st' := [.int (v4 + v6), .ref 113, .int v3]) 6 rfl ?_
        refine pu_iald rfl rfl g1 (shp_iM (c := 1) rfl) ?_
        refine pmSeg_U (pc' := 36) (ls' := [some (.ref 112), none, none, some (.int (v3 ||| (σ 1 (v4 + v6).toNatClampNeg))), some (.int v4), some (.int v5), some (.int (v6 + 1))]) (st' := []) 5 rfl ?_
        exact ih h
theorem L_Mo_within_b27 {S : pmS} (d : Nat)    : ∀ (n0 : Nat) {v3 : Int32} {v4 : Int32} {v5 : Int32} {σ τ : Mem} {z : Int32}, Mo_within_b27 n0 v3 v4 v5 σ = some z → pmU S (d + 0) 104 27 [some (.ref 112), none, none, some (.int v3), some (.int v4), some (.int v5), none] [] (shH τ σ) (some (.int z)) (shH τ σ) := by
  intro n0
  induction n0 with
  | zero =>
    intro v3 v4 v5 σ τ z  h
    unfold Mo_within_b27 at h
    cases h
  | succ n1 ih =>
    intro v3 v4 v5 σ τ z  h
    unfold Mo_within_b27 at h
    refine pmSeg_U (pc' := 30) (ls' := [some (.ref 112), none, none, some (.int v3), some (.int v4), some (.int v5), none]) (st' := [.int 4, .int v5]) 2 rfl ?_
    refine pu_icmpP (tg := 81) h rfl rfl rfl (fun h => ?_) (fun h => ?_)
    · refine pmSeg_U (pc' := 82) (ls' := [some (.ref 112), none, none, some (.int v3), some (.int v4), some (.int v5), none]) (st' := [.int v3]) 1 rfl ?_
      cases h
      exact pmU_T rfl rfl rfl rfl rfl rfl
    · refine pmSeg_U (pc' := 36) (ls' := [some (.ref 112), none, none, some (.int v3), some (.int v4), some (.int v5), some (.int 0)]) (st' := []) 2 rfl ?_
      exact L_Mo_within_b36 d ih FU h
theorem L_Mo_within {S : pmS} (d : Nat) {v1 : Int32} {v2 : Int32} {σ τ : Mem} {z : Int32}  (h : Mo_within v1 v2 σ = some z) : pmX S (d + 1) 104 [.ref 112, .int v1, .int v2] (shH τ σ) (some (.int z)) (shH τ σ) := by
  unfold Mo_within at h
  refine pmU_X rfl ?_
  obtain ⟨g1, h⟩ := gd_in h
  refine pmSeg_U (pc' := 9) (ls' := [some (.ref 112), some (.int v1), some (.int v2), none, none, none, none]) (st' := [.int ((4 * v1) + v2), .ref 113]) 7 rfl ?_
  refine pu_iald rfl rfl g1 (shp_iM (c := 1) rfl) ?_
  refine pmSeg_U (pc' := 13) (ls' := [some (.ref 112), some (.int v1), some (.int v2), some (.int (σ 1 ((4 * v1) + v2).toNatClampNeg)), none, none, none]) (st' := [.int 2, .int v1]) 3 rfl ?_
  refine pu_icmpP (tg := 20) h rfl rfl rfl (fun h => ?_) (fun h => ?_)
  · refine pmSeg_U (pc' := 27) (ls' := [some (.ref 112), some (.int v1), some (.int v2), some (.int (σ 1 ((4 * v1) + v2).toNatClampNeg)), some (.int 12), some (.int 0), none]) (st' := []) 4 rfl ?_
    refine pmU_le (a := [some (.ref 112), none, none, some (.int (σ 1 ((4 * v1) + v2).toNatClampNeg)), some (.int 12), some (.int 0), none]) (le_s (le_v rfl (le_v rfl (le_s (le_s (le_s (le_s le_nil))))))) ?_
    exact L_Mo_within_b27 d FU h
  · refine pmSeg_U (pc' := 27) (ls' := [some (.ref 112), some (.int v1), some (.int v2), some (.int (σ 1 ((4 * v1) + v2).toNatClampNeg)), some (.int 4), some (.int 0), none]) (st' := []) 5 rfl ?_
    refine pmU_le (a := [some (.ref 112), none, none, some (.int (σ 1 ((4 * v1) + v2).toNatClampNeg)), some (.int 4), some (.int 0), none]) (le_s (le_v rfl (le_v rfl (le_s (le_s (le_s (le_s le_nil))))))) ?_
    exact L_Mo_within_b27 d FU h
theorem L_Mo_join_b52 {S : pmS} (d : Nat)    {v1 : Int32} {v2 : Int32} {v3 : Int32} {σ τ : Mem} {z : Int32 × Mem}  (h : Mo_join_b52 v1 v2 v3 σ = some z) : pmU S (d + 1) 102 52 [some (.ref 112), some (.int v1), some (.int v2), some (.int v3)] [] (shH τ σ) (some (.int z.1)) (shH τ z.2) := by
  unfold Mo_join_b52 at h
  obtain ⟨g1, h⟩ := gd_in h
  refine pmSeg_U (pc' := 70) (ls' := [some (.ref 112), some (.int v1), some (.int v2), some (.int v3)]) (st' := [.int ((4 * v1) + v2), .ref 113, .int ((4 * v1) + v2), .ref 113]) 14 rfl ?_
  refine pu_iald rfl rfl g1 (shp_iM (c := 1) rfl) ?_
  obtain ⟨g2, h⟩ := gd_in h
  refine pmSeg_U (pc' := 75) (ls' := [some (.ref 112), some (.int v1), some (.int v2), some (.int v3)]) (st' := [.int ((σ 1 ((4 * v1) + v2).toNatClampNeg) ||| (1 <<< (v3 &&& 31))), .int ((4 * v1) + v2), .ref 113]) 4 rfl ?_
  refine pu_iast rfl rfl g2 (shp_pM (c := 1) rfl) ?_
  refine pmSeg_U (pc' := 77) (ls' := [some (.ref 112), some (.int v1), some (.int v2), some (.int v3)]) (st' := [.int 1]) 1 rfl ?_
  cases h
  exact pmU_T rfl rfl rfl rfl rfl rfl
theorem L_Mo_join {S : pmS} (d : Nat) {v1 : Int32} {v2 : Int32} {v3 : Int32} {σ τ : Mem} {z : Int32 × Mem}  (h : Mo_join v1 v2 v3 σ = some z) : pmX S (d + 2) 102 [.ref 112, .int v1, .int v2, .int v3] (shH τ σ) (some (.int z.1)) (shH τ z.2) := by
  unfold Mo_join at h
  refine pmU_X rfl ?_
  refine pmSeg_U (pc' := 2) (ls' := [some (.ref 112), some (.int v1), some (.int v2), some (.int v3)]) (st' := [.int 3, .int v1]) 2 rfl ?_
  refine pmU_C (av := [.int v1, .int 3]) (rest := []) rfl rfl rfl rfl rfl (L_Mo_is (d + 0)) ?_
  refine pmSeg_U (pc' := 5) (ls' := [some (.ref 112), some (.int v1), some (.int v2), some (.int v3)]) (st' := [.int (Mo_is v1 3)]) 0 rfl ?_
  refine pu_ifP (tg := 50) h rfl rfl rfl (fun h => ?_) (fun h => ?_)
  · refine pmSeg_U (pc' := 51) (ls' := [some (.ref 112), some (.int v1), some (.int v2), some (.int v3)]) (st' := [.int 0]) 1 rfl ?_
    cases h
    exact pmU_T rfl rfl rfl rfl rfl rfl
  · refine pmSeg_U (pc' := 10) (ls' := [some (.ref 112), some (.int v1), some (.int v2), some (.int v3)]) (st' := [.int 3, .int v2]) 2 rfl ?_
    refine pmU_C (av := [.int v2, .int 3]) (rest := []) rfl rfl rfl rfl rfl (L_Mo_is (d + 0)) ?_
    refine pmSeg_U (pc' := 13) (ls' := [some (.ref 112), some (.int v1), some (.int v2), some (.int v3)]) (st' := [.int (Mo_is v2 3)]) 0 rfl ?_
    refine pu_ifP (tg := 50) h rfl rfl rfl (fun h => ?_) (fun h => ?_)
    · refine pmSeg_U (pc' := 51) (ls' := [some (.ref 112), some (.int v1), some (.int v2), some (.int v3)]) (st' := [.int 0]) 1 rfl ?_
      cases h
      exact pmU_T rfl rfl rfl rfl rfl rfl
    · refine pmSeg_U (pc' := 18) (ls' := [some (.ref 112), some (.int v1), some (.int v2), some (.int v3)]) (st' := [.int 3, .int v3]) 2 rfl ?_
      refine pmU_C (av := [.int v3, .int 3]) (rest := []) rfl rfl rfl rfl rfl (L_Mo_is (d + 0)) ?_
      refine pmSeg_U (pc' := 21) (ls' := [some (.ref 112), some (.int v1), some (.int v2), some (.int v3)]) (st' := [.int (Mo_is v3 3)]) 0 rfl ?_
      refine pu_ifP (tg := 50) h rfl rfl rfl (fun h => ?_) (fun h => ?_)
      · refine pmSeg_U (pc' := 51) (ls' := [some (.ref 112), some (.int v1), some (.int v2), some (.int v3)]) (st' := [.int 0]) 1 rfl ?_
        cases h
        exact pmU_T rfl rfl rfl rfl rfl rfl
      · refine pmSeg_U (pc' := 28) (ls' := [some (.ref 112), some (.int v1), some (.int v2), some (.int v3)]) (st' := [.int 1, .int (v1 - v1 / 2 * 2)]) 4 rfl ?_
        refine pu_icmpP (tg := 52) h rfl rfl rfl (fun h => ?_) (fun h => ?_)
        · refine pmSeg_U (pc' := 52) (ls' := [some (.ref 112), some (.int v1), some (.int v2), some (.int v3)]) (st' := []) 0 rfl ?_
          exact L_Mo_join_b52 d h
        · refine pmSeg_U (pc' := 33) (ls' := [some (.ref 112), some (.int v1), some (.int v2), some (.int v3)]) (st' := [.int v3, .int v2]) 2 rfl ?_
          refine pu_icmpP (tg := 50) h rfl rfl rfl (fun h => ?_) (fun h => ?_)
          · refine pmSeg_U (pc' := 51) (ls' := [some (.ref 112), some (.int v1), some (.int v2), some (.int v3)]) (st' := [.int 0]) 1 rfl ?_
            cases h
            exact pmU_T rfl rfl rfl rfl rfl rfl
          · refine pmSeg_U (pc' := 39) (ls' := [some (.ref 112), some (.int v1), some (.int v2), some (.int v3)]) (st' := [.int v3, .int v1, .ref 112]) 3 rfl ?_
            obtain ⟨q39, hq39, h⟩ := bd_in h
            refine pmU_C (av := [.ref 112, .int v1, .int v3]) (rest := []) rfl rfl rfl rfl rfl (L_Mo_within (d + 0) hq39) ?_
            refine pmSeg_U (pc' := 47) (ls' := [some (.ref 112), some (.int v1), some (.int v2), some (.int v3)]) (st' := [.int 1, .int ((q39 >>> (v2 &&& 31)) &&& 1)]) 5 rfl ?_
            refine pu_icmpP (tg := 52) h rfl rfl rfl (fun h => ?_) (fun h => ?_)
            · refine pmSeg_U (pc' := 52) (ls' := [some (.ref 112), some (.int v1), some (.int v2), some (.int v3)]) (st' := []) 0 rfl ?_
              exact L_Mo_join_b52 d h
            · refine pmSeg_U (pc' := 51) (ls' := [some (.ref 112), some (.int v1), some (.int v2), some (.int v3)]) (st' := [.int 0]) 1 rfl ?_
              cases h
              exact pmU_T rfl rfl rfl rfl rfl rfl
theorem L_Mo_leave {S : pmS} (d : Nat) {v1 : Int32} {v2 : Int32} {v3 : Int32} {σ τ : Mem} {z : Int32 × Mem}  (h : Mo_leave v1 v2 v3 σ = some z) : pmX S (d + 2) 105 [.ref 112, .int v1, .int v2, .int v3] (shH τ σ) (some (.int z.1)) (shH τ z.2) := by
  unfold Mo_leave at h
  refine pmU_X rfl ?_
  refine pmSeg_U (pc' := 2) (ls' := [some (.ref 112), some (.int v1), some (.int v2), some (.int v3)]) (st' := [.int 3, .int v1]) 2 rfl ?_
  refine pmU_C (av := [.int v1, .int 3]) (rest := []) rfl rfl rfl rfl rfl (L_Mo_is (d + 0)) ?_
  refine pmSeg_U (pc' := 5) (ls' := [some (.ref 112), some (.int v1), some (.int v2), some (.int v3)]) (st' := [.int (Mo_is v1 3)]) 0 rfl ?_
  refine pu_ifP (tg := 41) h rfl rfl rfl (fun h => ?_) (fun h => ?_)
  · refine pmSeg_U (pc' := 42) (ls' := [some (.ref 112), some (.int v1), some (.int v2), some (.int v3)]) (st' := [.int 0]) 1 rfl ?_
    cases h
    exact pmU_T rfl rfl rfl rfl rfl rfl
  · refine pmSeg_U (pc' := 10) (ls' := [some (.ref 112), some (.int v1), some (.int v2), some (.int v3)]) (st' := [.int 3, .int v2]) 2 rfl ?_
    refine pmU_C (av := [.int v2, .int 3]) (rest := []) rfl rfl rfl rfl rfl (L_Mo_is (d + 0)) ?_
    refine pmSeg_U (pc' := 13) (ls' := [some (.ref 112), some (.int v1), some (.int v2), some (.int v3)]) (st' := [.int (Mo_is v2 3)]) 0 rfl ?_
    refine pu_ifP (tg := 41) h rfl rfl rfl (fun h => ?_) (fun h => ?_)
    · refine pmSeg_U (pc' := 42) (ls' := [some (.ref 112), some (.int v1), some (.int v2), some (.int v3)]) (st' := [.int 0]) 1 rfl ?_
      cases h
      exact pmU_T rfl rfl rfl rfl rfl rfl
    · refine pmSeg_U (pc' := 18) (ls' := [some (.ref 112), some (.int v1), some (.int v2), some (.int v3)]) (st' := [.int 3, .int v3]) 2 rfl ?_
      refine pmU_C (av := [.int v3, .int 3]) (rest := []) rfl rfl rfl rfl rfl (L_Mo_is (d + 0)) ?_
      refine pmSeg_U (pc' := 21) (ls' := [some (.ref 112), some (.int v1), some (.int v2), some (.int v3)]) (st' := [.int (Mo_is v3 3)]) 0 rfl ?_
      refine pu_ifP (tg := 41) h rfl rfl rfl (fun h => ?_) (fun h => ?_)
      · refine pmSeg_U (pc' := 42) (ls' := [some (.ref 112), some (.int v1), some (.int v2), some (.int v3)]) (st' := [.int 0]) 1 rfl ?_
        cases h
        exact pmU_T rfl rfl rfl rfl rfl rfl
      · obtain ⟨g1, h⟩ := gd_in h
        refine pmSeg_U (pc' := 33) (ls' := [some (.ref 112), some (.int v1), some (.int v2), some (.int v3)]) (st' := [.int ((4 * v1) + v2), .ref 113]) 7 rfl ?_
        refine pu_iald rfl rfl g1 (shp_iM (c := 1) rfl) ?_
        refine pmSeg_U (pc' := 38) (ls' := [some (.ref 112), some (.int v1), some (.int v2), some (.int v3)]) (st' := [.int (((σ 1 ((4 * v1) + v2).toNatClampNeg) >>> (v3 &&& 31)) &&& 1)]) 4 rfl ?_
        refine pu_ifP (tg := 43) h rfl rfl rfl (fun h => ?_) (fun h => ?_)
        · obtain ⟨g2, h⟩ := gd_in h
          refine pmSeg_U (pc' := 61) (ls' := [some (.ref 112), some (.int v1), some (.int v2), some (.int v3)]) (st' := [.int ((4 * v1) + v2), .ref 113, .int ((4 * v1) + v2), .ref 113]) 14 rfl ?_
          refine pu_iald rfl rfl g2 (shp_iM (c := 1) rfl) ?_
          obtain ⟨g3, h⟩ := gd_in h
          refine pmSeg_U (pc' := 68) (ls' := [some (.ref 112), some (.int v1), some (.int v2), some (.int v3)]) (st' := [.int ((σ 1 ((4 * v1) + v2).toNatClampNeg) &&& ((1 <<< (v3 &&& 31)) ^^^ (-1))), .int ((4 * v1) + v2), .ref 113]) 6 rfl ?_
          refine pu_iast rfl rfl g3 (shp_pM (c := 1) rfl) ?_
          refine pmSeg_U (pc' := 70) (ls' := [some (.ref 112), some (.int v1), some (.int v2), some (.int v3)]) (st' := [.int 1]) 1 rfl ?_
          cases h
          exact pmU_T rfl rfl rfl rfl rfl rfl
        · refine pmSeg_U (pc' := 42) (ls' := [some (.ref 112), some (.int v1), some (.int v2), some (.int v3)]) (st' := [.int 0]) 1 rfl ?_
          cases h
          exact pmU_T rfl rfl rfl rfl rfl rfl
theorem L_Mo_mark {S : pmS} (d : Nat) {v1 : Int32} {v2 : Int32} {v3 : Int32} {σ τ : Mem} {z : Int32 × Mem}  (h : Mo_mark v1 v2 v3 σ = some z) : pmX S (d + 2) 106 [.ref 112, .int v1, .int v2, .int v3] (shH τ σ) (some (.int z.1)) (shH τ z.2) := by
  unfold Mo_mark at h
  refine pmU_X rfl ?_
  refine pmSeg_U (pc' := 2) (ls' := [some (.ref 112), some (.int v1), some (.int v2), some (.int v3)]) (st' := [.int 3, .int v1]) 2 rfl ?_
  refine pmU_C (av := [.int v1, .int 3]) (rest := []) rfl rfl rfl rfl rfl (L_Mo_is (d + 0)) ?_
  refine pmSeg_U (pc' := 5) (ls' := [some (.ref 112), some (.int v1), some (.int v2), some (.int v3)]) (st' := [.int (Mo_is v1 3)]) 0 rfl ?_
  refine pu_ifP (tg := 27) h rfl rfl rfl (fun h => ?_) (fun h => ?_)
  · refine pmSeg_U (pc' := 28) (ls' := [some (.ref 112), some (.int v1), some (.int v2), some (.int v3)]) (st' := [.int 0]) 1 rfl ?_
    cases h
    exact pmU_T rfl rfl rfl rfl rfl rfl
  · refine pmSeg_U (pc' := 10) (ls' := [some (.ref 112), some (.int v1), some (.int v2), some (.int v3)]) (st' := [.int 3, .int v2]) 2 rfl ?_
    refine pmU_C (av := [.int v2, .int 3]) (rest := []) rfl rfl rfl rfl rfl (L_Mo_is (d + 0)) ?_
    refine pmSeg_U (pc' := 13) (ls' := [some (.ref 112), some (.int v1), some (.int v2), some (.int v3)]) (st' := [.int (Mo_is v2 3)]) 0 rfl ?_
    refine pu_ifP (tg := 27) h rfl rfl rfl (fun h => ?_) (fun h => ?_)
    · refine pmSeg_U (pc' := 28) (ls' := [some (.ref 112), some (.int v1), some (.int v2), some (.int v3)]) (st' := [.int 0]) 1 rfl ?_
      cases h
      exact pmU_T rfl rfl rfl rfl rfl rfl
    · refine pmSeg_U (pc' := 18) (ls' := [some (.ref 112), some (.int v1), some (.int v2), some (.int v3)]) (st' := [.int (-1), .int v3]) 2 rfl ?_
      refine pu_icmpP (tg := 27) h rfl rfl rfl (fun h => ?_) (fun h => ?_)
      · refine pmSeg_U (pc' := 28) (ls' := [some (.ref 112), some (.int v1), some (.int v2), some (.int v3)]) (st' := [.int 0]) 1 rfl ?_
        cases h
        exact pmU_T rfl rfl rfl rfl rfl rfl
      · refine pmSeg_U (pc' := 24) (ls' := [some (.ref 112), some (.int v1), some (.int v2), some (.int v3)]) (st' := [.int 7, .int v3]) 2 rfl ?_
        refine pu_icmpP (tg := 29) h rfl rfl rfl (fun h => ?_) (fun h => ?_)
        · obtain ⟨g1, h⟩ := gd_in h
          refine pmSeg_U (pc' := 39) (ls' := [some (.ref 112), some (.int v1), some (.int v2), some (.int v3)]) (st' := [.int v3, .int ((4 * v1) + v2), .ref 114]) 8 rfl ?_
          refine pu_iast rfl rfl g1 (shp_pM (c := 2) rfl) ?_
          refine pmSeg_U (pc' := 41) (ls' := [some (.ref 112), some (.int v1), some (.int v2), some (.int v3)]) (st' := [.int 1]) 1 rfl ?_
          cases h
          exact pmU_T rfl rfl rfl rfl rfl rfl
        · refine pmSeg_U (pc' := 28) (ls' := [some (.ref 112), some (.int v1), some (.int v2), some (.int v3)]) (st' := [.int 0]) 1 rfl ?_
          cases h
          exact pmU_T rfl rfl rfl rfl rfl rfl
theorem L_Mo_thing {S : pmS} (d : Nat) {v1 : Int32} {v2 : Int32} {v3 : Int32} {σ τ : Mem} {z : Int32 × Mem}  (h : Mo_thing v1 v2 v3 σ = some z) : pmX S (d + 2) 107 [.ref 112, .int v1, .int v2, .int v3] (shH τ σ) (some (.int z.1)) (shH τ z.2) := by
  unfold Mo_thing at h
  refine pmU_X rfl ?_
  refine pmSeg_U (pc' := 2) (ls' := [some (.ref 112), some (.int v1), some (.int v2), some (.int v3)]) (st' := [.int 3, .int v1]) 2 rfl ?_
  refine pmU_C (av := [.int v1, .int 3]) (rest := []) rfl rfl rfl rfl rfl (L_Mo_is (d + 0)) ?_
  refine pmSeg_U (pc' := 5) (ls' := [some (.ref 112), some (.int v1), some (.int v2), some (.int v3)]) (st' := [.int (Mo_is v1 3)]) 0 rfl ?_
  refine pu_ifP (tg := 25) h rfl rfl rfl (fun h => ?_) (fun h => ?_)
  · refine pmSeg_U (pc' := 26) (ls' := [some (.ref 112), some (.int v1), some (.int v2), some (.int v3)]) (st' := [.int 0]) 1 rfl ?_
    cases h
    exact pmU_T rfl rfl rfl rfl rfl rfl
  · refine pmSeg_U (pc' := 11) (ls' := [some (.ref 112), some (.int v1), some (.int v2), some (.int v3)]) (st' := [.int 7, .int v2]) 2 rfl ?_
    refine pmU_C (av := [.int v2, .int 7]) (rest := []) rfl rfl rfl rfl rfl (L_Mo_is (d + 0)) ?_
    refine pmSeg_U (pc' := 14) (ls' := [some (.ref 112), some (.int v1), some (.int v2), some (.int v3)]) (st' := [.int (Mo_is v2 7)]) 0 rfl ?_
    refine pu_ifP (tg := 25) h rfl rfl rfl (fun h => ?_) (fun h => ?_)
    · refine pmSeg_U (pc' := 26) (ls' := [some (.ref 112), some (.int v1), some (.int v2), some (.int v3)]) (st' := [.int 0]) 1 rfl ?_
      cases h
      exact pmU_T rfl rfl rfl rfl rfl rfl
    · refine pmSeg_U (pc' := 19) (ls' := [some (.ref 112), some (.int v1), some (.int v2), some (.int v3)]) (st' := [.int 3, .int v3]) 2 rfl ?_
      refine pmU_C (av := [.int v3, .int 3]) (rest := []) rfl rfl rfl rfl rfl (L_Mo_is (d + 0)) ?_
      refine pmSeg_U (pc' := 22) (ls' := [some (.ref 112), some (.int v1), some (.int v2), some (.int v3)]) (st' := [.int (Mo_is v3 3)]) 0 rfl ?_
      refine pu_ifP (tg := 27) h rfl rfl rfl (fun h => ?_) (fun h => ?_)
      · obtain ⟨g1, h⟩ := gd_in h
        refine pmSeg_U (pc' := 33) (ls' := [some (.ref 112), some (.int v1), some (.int v2), some (.int v3)]) (st' := [.int v2, .int v1, .ref 115]) 4 rfl ?_
        refine pu_iast rfl rfl g1 (shp_pM (c := 3) rfl) ?_
        obtain ⟨g2, h⟩ := gd_in h
        refine pmSeg_U (pc' := 40) (ls' := [some (.ref 112), some (.int v1), some (.int v2), some (.int v3)]) (st' := [.int v3, .int v1, .ref 116]) 4 rfl ?_
        refine pu_iast rfl rfl g2 (shp_pM (c := 4) rfl) ?_
        refine pmSeg_U (pc' := 42) (ls' := [some (.ref 112), some (.int v1), some (.int v2), some (.int v3)]) (st' := [.int 1]) 1 rfl ?_
        cases h
        exact pmU_T rfl rfl rfl rfl rfl rfl
      · refine pmSeg_U (pc' := 26) (ls' := [some (.ref 112), some (.int v1), some (.int v2), some (.int v3)]) (st' := [.int 0]) 1 rfl ?_
        cases h
        exact pmU_T rfl rfl rfl rfl rfl rfl
theorem L_Mo_isIn_b9 {S : pmS} (d : Nat)    {v1 : Int32} {v2 : Int32} {v3 : Int32} {σ τ : Mem} {z : Int32}  (h : Mo_isIn_b9 v1 v2 v3 σ = some z) : pmU S (d + 1) 108 9 [some (.ref 112), some (.int v1), some (.int v2), some (.int v3)] [] (shH τ σ) (some (.int z)) (shH τ σ) := by
  unfold Mo_isIn_b9 at h
  refine pmSeg_U (pc' := 11) (ls' := [some (.ref 112), some (.int v1), some (.int v2), some (.int v3)]) (st' := [.int 3, .int v2]) 2 rfl ?_
  refine pmU_C (av := [.int v2, .int 3]) (rest := []) rfl rfl rfl rfl rfl (L_Mo_is (d + 0)) ?_
  refine pmSeg_U (pc' := 14) (ls' := [some (.ref 112), some (.int v1), some (.int v2), some (.int v3)]) (st' := [.int (Mo_is v2 3)]) 0 rfl ?_
  refine pu_ifP (tg := 43) h rfl rfl rfl (fun h => ?_) (fun h => ?_)
  · refine pmSeg_U (pc' := 44) (ls' := [some (.ref 112), some (.int v1), some (.int v2), some (.int v3)]) (st' := [.int 0]) 1 rfl ?_
    cases h
    exact pmU_T rfl rfl rfl rfl rfl rfl
  · refine pmSeg_U (pc' := 19) (ls' := [some (.ref 112), some (.int v1), some (.int v2), some (.int v3)]) (st' := [.int 3, .int v3]) 2 rfl ?_
    refine pmU_C (av := [.int v3, .int 3]) (rest := []) rfl rfl rfl rfl rfl (L_Mo_is (d + 0)) ?_
    refine pmSeg_U (pc' := 22) (ls' := [some (.ref 112), some (.int v1), some (.int v2), some (.int v3)]) (st' := [.int (Mo_is v3 3)]) 0 rfl ?_
    refine pu_ifP (tg := 43) h rfl rfl rfl (fun h => ?_) (fun h => ?_)
    · refine pmSeg_U (pc' := 44) (ls' := [some (.ref 112), some (.int v1), some (.int v2), some (.int v3)]) (st' := [.int 0]) 1 rfl ?_
      cases h
      exact pmU_T rfl rfl rfl rfl rfl rfl
    · refine pmSeg_U (pc' := 28) (ls' := [some (.ref 112), some (.int v1), some (.int v2), some (.int v3)]) (st' := [.int v2, .int v1, .ref 112]) 3 rfl ?_
      obtain ⟨q28, hq28, h⟩ := bd_in h
      refine pmU_C (av := [.ref 112, .int v1, .int v2]) (rest := []) rfl rfl rfl rfl rfl (L_Mo_within (d + 0) hq28) ?_
      refine pmSeg_U (pc' := 36) (ls' := [some (.ref 112), some (.int v1), some (.int v2), some (.int v3)]) (st' := [.int 1, .int ((q28 >>> (v3 &&& 31)) &&& 1)]) 5 rfl ?_
      refine pu_icmpP (tg := 43) h rfl rfl rfl (fun h => ?_) (fun h => ?_)
      · refine pmSeg_U (pc' := 44) (ls' := [some (.ref 112), some (.int v1), some (.int v2), some (.int v3)]) (st' := [.int 0]) 1 rfl ?_
        cases h
        exact pmU_T rfl rfl rfl rfl rfl rfl
      · refine pmSeg_U (pc' := 44) (ls' := [some (.ref 112), some (.int v1), some (.int v2), some (.int v3)]) (st' := [.int 1]) 2 rfl ?_
        cases h
        exact pmU_T rfl rfl rfl rfl rfl rfl
theorem L_Mo_isIn {S : pmS} (d : Nat) {v1 : Int32} {v2 : Int32} {v3 : Int32} {σ τ : Mem} {z : Int32}  (h : Mo_isIn v1 v2 v3 σ = some z) : pmX S (d + 2) 108 [.ref 112, .int v1, .int v2, .int v3] (shH τ σ) (some (.int z)) (shH τ σ) := by
  unfold Mo_isIn at h
  refine pmU_X rfl ?_
  refine pmSeg_U (pc' := 1) (ls' := [some (.ref 112), some (.int v1), some (.int v2), some (.int v3)]) (st' := [.int v1]) 1 rfl ?_
  refine pu_ifP (tg := 9) h rfl rfl rfl (fun h => ?_) (fun h => ?_)
  · refine pmSeg_U (pc' := 9) (ls' := [some (.ref 112), some (.int v1), some (.int v2), some (.int v3)]) (st' := []) 0 rfl ?_
    exact L_Mo_isIn_b9 d h
  · refine pmSeg_U (pc' := 6) (ls' := [some (.ref 112), some (.int v1), some (.int v2), some (.int v3)]) (st' := [.int 2, .int v1]) 2 rfl ?_
    refine pu_icmpP (tg := 43) h rfl rfl rfl (fun h => ?_) (fun h => ?_)
    · refine pmSeg_U (pc' := 44) (ls' := [some (.ref 112), some (.int v1), some (.int v2), some (.int v3)]) (st' := [.int 0]) 1 rfl ?_
      cases h
      exact pmU_T rfl rfl rfl rfl rfl rfl
    · refine pmSeg_U (pc' := 9) (ls' := [some (.ref 112), some (.int v1), some (.int v2), some (.int v3)]) (st' := []) 0 rfl ?_
      exact L_Mo_isIn_b9 d h
theorem L_Mo_put_b32 {S : pmS} (d : Nat)    : ∀ (n0 : Nat) {v1 : Int64} {v3 : Int32} {v4 : Int32} {σ τ : Mem} {z : Int32 × Mem}, Mo_put_b32 n0 v1 v3 v4 σ = some z → pmU S (d + 0) 109 32 [some (.ref 112), some (.long v1), none, some (.int v3), some (.int v4)] [] (shH τ σ) (some (.int z.1)) (shH τ z.2) := by
  intro n0
  induction n0 with
  | zero =>
    intro v1 v3 v4 σ τ z  h
    unfold Mo_put_b32 at h
    cases h
  | succ n1 ih =>
    intro v1 v3 v4 σ τ z  h
    unfold Mo_put_b32 at h
    refine pmSeg_U (pc' := 35) (ls' := [some (.ref 112), some (.long v1), none, some (.int v3), some (.int v4)]) (st' := [.int v3, .int v4]) 2 rfl ?_
    refine pu_icmpP (tg := 75) h rfl rfl rfl (fun h => ?_) (fun h => ?_)
    · refine pmSeg_U (pc' := 79) (ls' := [some (.ref 112), some (.long v1), none, some (.int v3), some (.int v4)]) (st' := [.int (σ 0 4)]) 2 rfl ?_
      cases h
      exact pmU_T rfl rfl rfl rfl rfl rfl
    · obtain ⟨g1, h⟩ := gd_in h
      refine pmSeg_U (pc' := 58) (ls' := [some (.ref 112), some (.long v1), none, some (.int v3), some (.int v4)]) (st' := [.int ((v1 >>> ((8 * v4).toInt64 &&& 63)) &&& 255).toInt32, .int (σ 0 4), .ref 117]) 12 rfl ?_
      refine pu_iast rfl rfl g1 (shp_pM (c := 5) rfl) ?_
      refine pmSeg_U (pc' := 66) (ls' := [some (.ref 112), some (.long v1), none, some (.int v3), some (.int v4)]) (st' := [.int (((mput σ 5 (σ 0 4).toNatClampNeg ((v1 >>> ((8 * v4).toInt64 &&& 63)) &&& 255).toInt32) 0 4) + 1), .ref 112]) 5 rfl ?_
      refine pu_put rfl rfl rfl rfl rfl (shp_pM (c := 0) rfl) ?_
      refine pmSeg_U (pc' := 32) (ls' := [some (.ref 112), some (.long v1), none, some (.int v3), some (.int (v4 + 1))]) (st' := []) 2 rfl ?_
      exact ih h
theorem L_Mo_put {S : pmS} (d : Nat) {v1 : Int64} {v3 : Int32} {σ τ : Mem} {z : Int32 × Mem}  (h : Mo_put v1 v3 σ = some z) : pmX S (d + 1) 109 [.ref 112, .long v1, .int v3] (shH τ σ) (some (.int z.1)) (shH τ z.2) := by
  unfold Mo_put at h
  refine pmU_X rfl ?_
  refine pmSeg_U (pc' := 2) (ls' := [some (.ref 112), some (.long v1), none, some (.int v3), none]) (st' := [.int 1, .int v3]) 2 rfl ?_
  refine pu_icmpP (tg := 11) h rfl rfl rfl (fun h => ?_) (fun h => ?_)
  · refine pmSeg_U (pc' := 13) (ls' := [some (.ref 112), some (.long v1), none, some (.int v3), none]) (st' := [.int (-2)]) 1 rfl ?_
    cases h
    exact pmU_T rfl rfl rfl rfl rfl rfl
  · refine pmSeg_U (pc' := 8) (ls' := [some (.ref 112), some (.long v1), none, some (.int v3), none]) (st' := [.int 8, .int v3]) 2 rfl ?_
    refine pu_icmpP (tg := 14) h rfl rfl rfl (fun h => ?_) (fun h => ?_)
    · refine pmSeg_U (pc' := 23) (ls' := [some (.ref 112), some (.long v1), none, some (.int v3), none]) (st' := [.int 160, .int ((σ 0 4) + v3)]) 5 rfl ?_
      refine pu_icmpP (tg := 29) h rfl rfl rfl (fun h => ?_) (fun h => ?_)
      · refine pmSeg_U (pc' := 32) (ls' := [some (.ref 112), some (.long v1), none, some (.int v3), some (.int 0)]) (st' := []) 2 rfl ?_
        exact L_Mo_put_b32 d FU h
      · refine pmSeg_U (pc' := 28) (ls' := [some (.ref 112), some (.long v1), none, some (.int v3), none]) (st' := [.int (-3)]) 1 rfl ?_
        cases h
        exact pmU_T rfl rfl rfl rfl rfl rfl
    · refine pmSeg_U (pc' := 13) (ls' := [some (.ref 112), some (.long v1), none, some (.int v3), none]) (st' := [.int (-2)]) 1 rfl ?_
      cases h
      exact pmU_T rfl rfl rfl rfl rfl rfl
theorem L_Mo_wipe {S : pmS} (d : Nat)  {σ τ : Mem} {z : Int32 × Mem}  (h : Mo_wipe σ = some z) : pmX S (d + 1) 110 [.ref 112] (shH τ σ) (some (.int z.1)) (shH τ z.2) := by
  unfold Mo_wipe at h
  refine pmU_X rfl ?_
  refine pmSeg_U (pc' := 7) (ls' := [some (.ref 112), some (.int (σ 0 4))]) (st' := [.int 0, .ref 112]) 5 rfl ?_
  refine pu_put rfl rfl rfl rfl rfl (shp_pM (c := 0) rfl) ?_
  refine pmSeg_U (pc' := 11) (ls' := [some (.ref 112), some (.int (σ 0 4))]) (st' := [.int (σ 0 4)]) 1 rfl ?_
  cases h
  exact pmU_T rfl rfl rfl rfl rfl rfl
theorem L_Mo_blame_b19 {S : pmS} (d : Nat)    {s1 : Int32} {σ τ : Mem} {z : Mem}  (h : Mo_blame_b19 s1 σ = some z) : pmU S (d + 0) 113 19 [none, none] [.int s1, .ref 112] (shH τ σ) none (shH τ z) := by
  unfold Mo_blame_b19 at h
  refine pmSeg_U (pc' := 19) (ls' := [none, none]) (st' := [.int s1, .ref 112]) 0 rfl ?_
  refine pu_put rfl rfl rfl rfl rfl (shp_pM (c := 0) rfl) ?_
  refine pmSeg_U (pc' := 22) (ls' := [none, none]) (st' := []) 0 rfl ?_
  cases h
  exact pmU_T rfl rfl rfl rfl rfl rfl
theorem L_Mo_blame {S : pmS} (d : Nat) {v1 : Int32} {σ τ : Mem} {z : Mem}  (h : Mo_blame v1 σ = some z) : pmX S (d + 1) 113 [.ref 112, .int v1] (shH τ σ) none (shH τ z) := by
  unfold Mo_blame at h
  refine pmU_X rfl ?_
  refine pmSeg_U (pc' := 5) (ls' := [some (.ref 112), some (.int v1)]) (st' := [.int (σ 0 15), .ref 112]) 3 rfl ?_
  refine pu_ifP (tg := 15) h rfl rfl rfl (fun h => ?_) (fun h => ?_)
  · refine pmSeg_U (pc' := 19) (ls' := [some (.ref 112), some (.int v1)]) (st' := [.int (σ 0 15), .ref 112]) 2 rfl ?_
    refine pmU_le (a := [none, none]) (le_v rfl (le_v rfl le_nil)) ?_
    exact L_Mo_blame_b19 d h
  · refine pmSeg_U (pc' := 19) (ls' := [some (.ref 112), some (.int v1)]) (st' := [.int ((-10) - v1), .ref 112]) 4 rfl ?_
    refine pmU_le (a := [none, none]) (le_v rfl (le_v rfl le_nil)) ?_
    exact L_Mo_blame_b19 d h
theorem L_Mo_wrongType_b20 {S : pmS} (d : Nat)    {s1 : Int32} {σ τ : Mem} {z : Mem}  (h : Mo_wrongType_b20 s1 σ = some z) : pmU S (d + 0) 124 20 [none, none] [.int s1, .ref 112] (shH τ σ) none (shH τ z) := by
  unfold Mo_wrongType_b20 at h
  refine pmSeg_U (pc' := 20) (ls' := [none, none]) (st' := [.int s1, .ref 112]) 0 rfl ?_
  refine pu_put rfl rfl rfl rfl rfl (shp_pM (c := 0) rfl) ?_
  refine pmSeg_U (pc' := 23) (ls' := [none, none]) (st' := []) 0 rfl ?_
  cases h
  exact pmU_T rfl rfl rfl rfl rfl rfl
theorem L_Mo_wrongType {S : pmS} (d : Nat) {v1 : Int32} {σ τ : Mem} {z : Mem}  (h : Mo_wrongType v1 σ = some z) : pmX S (d + 1) 124 [.ref 112, .int v1] (shH τ σ) none (shH τ z) := by
  unfold Mo_wrongType at h
  refine pmU_X rfl ?_
  refine pmSeg_U (pc' := 5) (ls' := [some (.ref 112), some (.int v1)]) (st' := [.int (σ 0 15), .ref 112]) 3 rfl ?_
  refine pu_ifP (tg := 16) h rfl rfl rfl (fun h => ?_) (fun h => ?_)
  · refine pmSeg_U (pc' := 20) (ls' := [some (.ref 112), some (.int v1)]) (st' := [.int (σ 0 15), .ref 112]) 2 rfl ?_
    refine pmU_le (a := [none, none]) (le_v rfl (le_v rfl le_nil)) ?_
    exact L_Mo_wrongType_b20 d h
  · refine pmSeg_U (pc' := 20) (ls' := [some (.ref 112), some (.int v1)]) (st' := [.int ((-1000) - v1), .ref 112]) 4 rfl ?_
    refine pmU_le (a := [none, none]) (le_v rfl (le_v rfl le_nil)) ?_
    exact L_Mo_wrongType_b20 d h
theorem L_Mo_here_b19 {S : pmS} (d : Nat)     {σ τ : Mem} {z : Int32 × Mem}  (h : Mo_here_b19 σ = some z) : pmU S (d + 1) 112 19 [some (.ref 112)] [] (shH τ σ) (some (.int z.1)) (shH τ z.2) := by
  unfold Mo_here_b19 at h
  refine pmSeg_U (pc' := 23) (ls' := [some (.ref 112)]) (st' := [.int (σ 0 15)]) 2 rfl ?_
  refine pu_ifP (tg := 30) h rfl rfl rfl (fun h => ?_) (fun h => ?_)
  · obtain ⟨g1, h⟩ := gd_in h
    refine pmSeg_U (pc' := 38) (ls' := [some (.ref 112)]) (st' := [.int (σ 0 14), .ref 117]) 4 rfl ?_
    refine pu_iald rfl rfl g1 (shp_iM (c := 5) rfl) ?_
    refine pmSeg_U (pc' := 39) (ls' := [some (.ref 112)]) (st' := [.int (σ 5 (σ 0 14).toNatClampNeg)]) 0 rfl ?_
    cases h
    exact pmU_T rfl rfl rfl rfl rfl rfl
  · refine pmSeg_U (pc' := 39) (ls' := [some (.ref 112)]) (st' := [.int (-1)]) 2 rfl ?_
    cases h
    exact pmU_T rfl rfl rfl rfl rfl rfl
theorem L_Mo_here {S : pmS} (d : Nat)  {σ τ : Mem} {z : Int32 × Mem}  (h : Mo_here σ = some z) : pmX S (d + 2) 112 [.ref 112] (shH τ σ) (some (.int z.1)) (shH τ z.2) := by
  unfold Mo_here at h
  refine pmU_X rfl ?_
  refine pmSeg_U (pc' := 8) (ls' := [some (.ref 112)]) (st' := [.int (σ 0 4), .int (σ 0 14)]) 4 rfl ?_
  refine pu_icmpP (tg := 19) h rfl rfl rfl (fun h => ?_) (fun h => ?_)
  · refine pmSeg_U (pc' := 19) (ls' := [some (.ref 112)]) (st' := []) 0 rfl ?_
    exact L_Mo_here_b19 d h
  · refine pmSeg_U (pc' := 16) (ls' := [some (.ref 112)]) (st' := [.int (σ 0 4), .ref 112]) 3 rfl ?_
    obtain ⟨q16, hq16, h⟩ := bd_in h
    refine pmU_C (av := [.ref 112, .int (σ 0 4)]) (rest := []) rfl rfl rfl rfl rfl (L_Mo_blame (d + 0) hq16) ?_
    refine pmSeg_U (pc' := 19) (ls' := [some (.ref 112)]) (st' := []) 0 rfl ?_
    exact L_Mo_here_b19 d h
theorem L_Mo_emit {S : pmS} (d : Nat) {v1 : Int32} {v2 : Int32} {σ τ : Mem} {z : Mem}  (h : Mo_emit v1 v2 σ = some z) : pmX S (d + 1) 120 [.ref 112, .int v1, .int v2] (shH τ σ) none (shH τ z) := by
  unfold Mo_emit at h
  refine pmU_X rfl ?_
  obtain ⟨g1, h⟩ := gd_in h
  refine pmSeg_U (pc' := 13) (ls' := [some (.ref 112), some (.int v1), some (.int v2)]) (st' := [.int 16, .ref 123, .int 2560, .ref 124]) 6 rfl ?_
  refine pu_iald rfl rfl g1 (shp_iM (c := 11) rfl) ?_
  obtain ⟨g2, h⟩ := gd_in h
  refine pmSeg_U (pc' := 16) (ls' := [some (.ref 112), some (.int v1), some (.int v2)]) (st' := [.int v1, .int (2560 + (σ 11 16)), .ref 124]) 2 rfl ?_
  refine pu_iast rfl rfl g2 (shp_pM (c := 12) rfl) ?_
  obtain ⟨g3, h⟩ := gd_in h
  refine pmSeg_U (pc' := 30) (ls' := [some (.ref 112), some (.int v1), some (.int v2)]) (st' := [.int 16, .ref 123, .int 2560, .ref 125]) 6 rfl ?_
  refine pu_iald rfl rfl g3 (shp_iM (c := 11) rfl) ?_
  obtain ⟨g4, h⟩ := gd_in h
  refine pmSeg_U (pc' := 33) (ls' := [some (.ref 112), some (.int v1), some (.int v2)]) (st' := [.int v2, .int (2560 + ((mput σ 12 (2560 + (σ 11 16)).toNatClampNeg v1) 11 16)), .ref 125]) 2 rfl ?_
  refine pu_iast rfl rfl g4 (shp_pM (c := 13) rfl) ?_
  obtain ⟨g5, h⟩ := gd_in h
  refine pmSeg_U (pc' := 41) (ls' := [some (.ref 112), some (.int v1), some (.int v2)]) (st' := [.int 16, .ref 123, .int 16, .ref 123]) 4 rfl ?_
  refine pu_iald rfl rfl g5 (shp_iM (c := 11) rfl) ?_
  obtain ⟨g6, h⟩ := gd_in h
  refine pmSeg_U (pc' := 44) (ls' := [some (.ref 112), some (.int v1), some (.int v2)]) (st' := [.int (((mput (mput σ 12 (2560 + (σ 11 16)).toNatClampNeg v1) 13 (2560 + ((mput σ 12 (2560 + (σ 11 16)).toNatClampNeg v1) 11 16)).toNatClampNeg v2) 11 16) + 1), .int 16, .ref 123]) 2 rfl ?_
  refine pu_iast rfl rfl g6 (shp_pM (c := 11) rfl) ?_
  refine pmSeg_U (pc' := 45) (ls' := [some (.ref 112), some (.int v1), some (.int v2)]) (st' := []) 0 rfl ?_
  cases h
  exact pmU_T rfl rfl rfl rfl rfl rfl
theorem L_Mo_patch_b2 {S : pmS} (d : Nat)    : ∀ (n0 : Nat) {v2 : Int32} {σ τ : Mem} {z : Mem}, Mo_patch_b2 n0 v2 σ = some z → pmU S (d + 0) 128 2 [some (.ref 112), none, some (.int v2), none] [] (shH τ σ) none (shH τ z) := by
  intro n0
  induction n0 with
  | zero =>
    intro v2 σ τ z  h
    unfold Mo_patch_b2 at h
    cases h
  | succ n1 ih =>
    intro v2 σ τ z  h
    unfold Mo_patch_b2 at h
    refine pmSeg_U (pc' := 3) (ls' := [some (.ref 112), none, some (.int v2), none]) (st' := [.int v2]) 1 rfl ?_
    refine pu_ifP (tg := 39) h rfl rfl rfl (fun h => ?_) (fun h => ?_)
    · refine pmSeg_U (pc' := 39) (ls' := [some (.ref 112), none, some (.int v2), none]) (st' := []) 0 rfl ?_
      cases h
      exact pmU_T rfl rfl rfl rfl rfl rfl
    · obtain ⟨g1, h⟩ := gd_in h
      refine pmSeg_U (pc' := 15) (ls' := [some (.ref 112), none, some (.int v2), none]) (st' := [.int (2560 + v2), .ref 125]) 5 rfl ?_
      refine pu_iald rfl rfl g1 (shp_iM (c := 13) rfl) ?_
      obtain ⟨g2, h⟩ := gd_in h
      refine pmSeg_U (pc' := 32) (ls' := [some (.ref 112), none, some (.int v2), some (.int (σ 13 (2560 + v2).toNatClampNeg))]) (st' := [.int 16, .ref 123, .int (2560 + v2), .ref 125]) 9 rfl ?_
      refine pu_iald rfl rfl g2 (shp_iM (c := 11) rfl) ?_
      obtain ⟨g3, h⟩ := gd_in h
      refine pmSeg_U (pc' := 33) (ls' := [some (.ref 112), none, some (.int v2), some (.int (σ 13 (2560 + v2).toNatClampNeg))]) (st' := [.int (σ 11 16), .int (2560 + v2), .ref 125]) 0 rfl ?_
      refine pu_iast rfl rfl g3 (shp_pM (c := 13) rfl) ?_
      refine pmSeg_U (pc' := 2) (ls' := [some (.ref 112), none, some (.int (σ 13 (2560 + v2).toNatClampNeg)), some (.int (σ 13 (2560 + v2).toNatClampNeg))]) (st' := []) 3 rfl ?_
      refine pmU_le (a := [some (.ref 112), none, some (.int (σ 13 (2560 + v2).toNatClampNeg)), none]) (le_s (le_s (le_s (le_v rfl le_nil)))) ?_
      exact ih h
theorem L_Mo_patch {S : pmS} (d : Nat) {v1 : Int32} {σ τ : Mem} {z : Mem}  (h : Mo_patch v1 σ = some z) : pmX S (d + 1) 128 [.ref 112, .int v1] (shH τ σ) none (shH τ z) := by
  unfold Mo_patch at h
  refine pmU_X rfl ?_
  refine pmSeg_U (pc' := 2) (ls' := [some (.ref 112), some (.int v1), some (.int v1), none]) (st' := []) 2 rfl ?_
  refine pmU_le (a := [some (.ref 112), none, some (.int v1), none]) (le_s (le_v rfl (le_s (le_s le_nil)))) ?_
  exact L_Mo_patch_b2 d FU h
theorem L_Mo_readScope_b114 {S : pmS} (d : Nat)    {s1 : Int32} {s2 : Int32} {σ τ : Mem} {z : Mem}  (h : Mo_readScope_b114 s1 s2 σ = some z) : pmU S (d + 2) 114 114 [some (.ref 112), none, none, none, none] [.int s2, .int s1, .ref 120] (shH τ σ) none (shH τ z) := by
  unfold Mo_readScope_b114 at h
  obtain ⟨g1, h⟩ := gd_in h
  refine pmSeg_U (pc' := 114) (ls' := [some (.ref 112), none, none, none, none]) (st' := [.int s2, .int s1, .ref 120]) 0 rfl ?_
  refine pu_iast rfl rfl g1 (shp_pM (c := 8) rfl) ?_
  refine pmSeg_U (pc' := 122) (ls' := [some (.ref 112), none, none, none, none]) (st' := [.int (((mput σ 8 s1.toNatClampNeg s2) 0 14) + 1), .ref 112]) 5 rfl ?_
  refine pu_put rfl rfl rfl rfl rfl (shp_pM (c := 0) rfl) ?_
  refine pmSeg_U (pc' := 125) (ls' := [some (.ref 112), none, none, none, none]) (st' := []) 0 rfl ?_
  cases h
  exact pmU_T rfl rfl rfl rfl rfl rfl
