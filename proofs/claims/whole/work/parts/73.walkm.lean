theorem L_Mo_drop {S : pmS} (d : Nat) {v1 : Int32} {v2 : Int32} {σ τ : Mem} {z : Int32 × Mem}  (h : Mo_drop v1 v2 σ = some z) : pmX S (d + 3) 131 [.ref 112, .int v1, .int v2] (shH τ σ) (some (.int z.1)) (shH τ z.2) := by
  unfold Mo_drop at h
  refine pmU_X rfl ?_
  refine pmSeg_U (pc' := 3) (ls' := [some (.ref 112), some (.int v1), some (.int v2), none]) (st' := [.int v2, .int v1, .ref 112]) 3 rfl ?_
  obtain ⟨q3, hq3, h⟩ := bd_in h
  refine pmU_C (av := [.ref 112, .int v1, .int v2]) (rest := []) rfl rfl rfl rfl rfl (L_Mo_isPolicy (d + 0) hq3) ?_
  refine pmSeg_U (pc' := 6) (ls' := [some (.ref 112), some (.int v1), some (.int v2), none]) (st' := [.int q3]) 0 rfl ?_
  refine pu_ifP (tg := 12) h rfl rfl rfl (fun h => ?_) (fun h => ?_)
  · obtain ⟨g1, h⟩ := gd_in h
    refine pmSeg_U (pc' := 18) (ls' := [some (.ref 112), some (.int v1), some (.int v2), none]) (st' := [.int v1, .ref 118, .int v1, .ref 118]) 4 rfl ?_
    refine pu_iald rfl rfl g1 (shp_iM (c := 6) rfl) ?_
    obtain ⟨g2, h⟩ := gd_in h
    refine pmSeg_U (pc' := 21) (ls' := [some (.ref 112), some (.int v1), some (.int v2), none]) (st' := [.int ((σ 6 v1.toNatClampNeg) - 1), .int v1, .ref 118]) 2 rfl ?_
    refine pu_iast rfl rfl g2 (shp_pM (c := 6) rfl) ?_
    refine pmSeg_U (pc' := 29) (ls' := [some (.ref 112), some (.int v1), some (.int v2), some (.int ((8 * v1) + v2))]) (st' := []) 6 rfl ?_
    refine pmU_le (a := [some (.ref 112), some (.int v1), none, some (.int ((8 * v1) + v2))]) (le_s (le_s (le_v rfl (le_s le_nil)))) ?_
    exact L_Mo_drop_b29 d FU h
  · refine pmSeg_U (pc' := 11) (ls' := [some (.ref 112), some (.int v1), some (.int v2), none]) (st' := [.int (-2)]) 1 rfl ?_
    cases h
    exact pmU_T rfl rfl rfl rfl rfl rfl
theorem L_Mo_size {S : pmS} (d : Nat) {v1 : Int32} {σ τ : Mem} {z : Int32}  (h : Mo_size v1 σ = some z) : pmX S (d + 2) 134 [.ref 112, .int v1] (shH τ σ) (some (.int z)) (shH τ σ) := by
  unfold Mo_size at h
  refine pmU_X rfl ?_
  refine pmSeg_U (pc' := 2) (ls' := [some (.ref 112), some (.int v1)]) (st' := [.int v1, .ref 112]) 2 rfl ?_
  refine pmU_C (av := [.ref 112, .int v1]) (rest := []) rfl rfl rfl rfl rfl (L_Mo_isSet (d + 0)) ?_
  refine pmSeg_U (pc' := 5) (ls' := [some (.ref 112), some (.int v1)]) (st' := [.int (Mo_isSet v1)]) 0 rfl ?_
  refine pu_ifP (tg := 17) h rfl rfl rfl (fun h => ?_) (fun h => ?_)
  · refine pmSeg_U (pc' := 18) (ls' := [some (.ref 112), some (.int v1)]) (st' := [.int (-1)]) 1 rfl ?_
    cases h
    exact pmU_T rfl rfl rfl rfl rfl rfl
  · obtain ⟨g1, h⟩ := gd_in h
    refine pmSeg_U (pc' := 13) (ls' := [some (.ref 112), some (.int v1)]) (st' := [.int v1, .ref 118]) 3 rfl ?_
    refine pu_iald rfl rfl g1 (shp_iM (c := 6) rfl) ?_
    refine pmSeg_U (pc' := 18) (ls' := [some (.ref 112), some (.int v1)]) (st' := [.int (σ 6 v1.toNatClampNeg)]) 1 rfl ?_
    cases h
    exact pmU_T rfl rfl rfl rfl rfl rfl
theorem L_Mo_personOf' {S : pmS} (d : Nat) {v0 : Int32} {h0 : pmH} {z : Int32} (h : Mo_personOf v0 = z) : pmX S (d + 1) 137 [.int v0] h0 (some (.int z)) h0 := by
  unfold Mo_personOf at h
  refine pmU_X rfl ?_
  refine pmSeg_U (pc' := 4) (ls' := [some (.int v0)]) (st' := [.int (v0 >>> (9 &&& 31))]) 3 rfl ?_
  cases h
  exact pmU_T rfl rfl rfl rfl rfl rfl
theorem L_Mo_personOf {S : pmS} (d : Nat) {v0 : Int32} {h0 : pmH} : pmX S (d + 1) 137 [.int v0] h0 (some (.int (Mo_personOf v0))) h0 := L_Mo_personOf' d rfl
theorem L_Mo_thingOf' {S : pmS} (d : Nat) {v0 : Int32} {h0 : pmH} {z : Int32} (h : Mo_thingOf v0 = z) : pmX S (d + 1) 139 [.int v0] h0 (some (.int z)) h0 := by
  unfold Mo_thingOf at h
  refine pmU_X rfl ?_
  refine pmSeg_U (pc' := 5) (ls' := [some (.int v0)]) (st' := [.int ((v0 >>> (5 &&& 31)) &&& 3)]) 5 rfl ?_
  cases h
  exact pmU_T rfl rfl rfl rfl rfl rfl
theorem L_Mo_thingOf {S : pmS} (d : Nat) {v0 : Int32} {h0 : pmH} : pmX S (d + 1) 139 [.int v0] h0 (some (.int (Mo_thingOf v0))) h0 := L_Mo_thingOf' d rfl
theorem L_Mo_hasScope {S : pmS} (d : Nat) {v1 : Int32} {v2 : Int32} {v3 : Int32} {σ τ : Mem} {z : Int32}  (h : Mo_hasScope v1 v2 v3 σ = some z) : pmX S (d + 2) 138 [.ref 112, .int v1, .int v2, .int v3] (shH τ σ) (some (.int z)) (shH τ σ) := by
  unfold Mo_hasScope at h
  refine pmU_X rfl ?_
  refine pmSeg_U (pc' := 1) (ls' := [some (.ref 112), some (.int v1), some (.int v2), some (.int v3)]) (st' := [.int v1]) 1 rfl ?_
  refine pu_ifP (tg := 30) h rfl rfl rfl (fun h => ?_) (fun h => ?_)
  · refine pmSeg_U (pc' := 35) (ls' := [some (.ref 112), some (.int v1), some (.int v2), some (.int v3)]) (st' := [.int 1]) 2 rfl ?_
    cases h
    exact pmU_T rfl rfl rfl rfl rfl rfl
  · refine pmSeg_U (pc' := 6) (ls' := [some (.ref 112), some (.int v1), some (.int v2), some (.int v3)]) (st' := [.int v2, .int v1]) 2 rfl ?_
    refine pu_icmpP (tg := 30) h rfl rfl rfl (fun h => ?_) (fun h => ?_)
    · refine pmSeg_U (pc' := 35) (ls' := [some (.ref 112), some (.int v1), some (.int v2), some (.int v3)]) (st' := [.int 1]) 2 rfl ?_
      cases h
      exact pmU_T rfl rfl rfl rfl rfl rfl
    · refine pmSeg_U (pc' := 11) (ls' := [some (.ref 112), some (.int v1), some (.int v2), some (.int v3)]) (st' := [.int 3, .int v1]) 2 rfl ?_
      refine pu_icmpP (tg := 34) h rfl rfl rfl (fun h => ?_) (fun h => ?_)
      · refine pmSeg_U (pc' := 35) (ls' := [some (.ref 112), some (.int v1), some (.int v2), some (.int v3)]) (st' := [.int 0]) 1 rfl ?_
        cases h
        exact pmU_T rfl rfl rfl rfl rfl rfl
      · refine pmSeg_U (pc' := 17) (ls' := [some (.ref 112), some (.int v1), some (.int v2), some (.int v3)]) (st' := [.int v2, .int v3, .ref 112]) 3 rfl ?_
        obtain ⟨q17, hq17, h⟩ := bd_in h
        refine pmU_C (av := [.ref 112, .int v3, .int v2]) (rest := []) rfl rfl rfl rfl rfl (L_Mo_within (d + 0) hq17) ?_
        refine pmSeg_U (pc' := 27) (ls' := [some (.ref 112), some (.int v1), some (.int v2), some (.int v3)]) (st' := [.int 1, .int ((q17 >>> ((v1 - 4) &&& 31)) &&& 1)]) 7 rfl ?_
        refine pu_icmpP (tg := 34) h rfl rfl rfl (fun h => ?_) (fun h => ?_)
        · refine pmSeg_U (pc' := 35) (ls' := [some (.ref 112), some (.int v1), some (.int v2), some (.int v3)]) (st' := [.int 0]) 1 rfl ?_
          cases h
          exact pmU_T rfl rfl rfl rfl rfl rfl
        · refine pmSeg_U (pc' := 35) (ls' := [some (.ref 112), some (.int v1), some (.int v2), some (.int v3)]) (st' := [.int 1]) 2 rfl ?_
          cases h
          exact pmU_T rfl rfl rfl rfl rfl rfl
theorem L_Mo_valueOf {S : pmS} (d : Nat) {v1 : Int32} {v2 : Int32} {v3 : Int32} {σ τ : Mem} {z : Int32}  (h : Mo_valueOf v1 v2 v3 σ = some z) : pmX S (d + 2) 142 [.ref 112, .int v1, .int v2, .int v3] (shH τ σ) (some (.int z)) (shH τ σ) := by
  unfold Mo_valueOf at h
  refine pmU_X rfl ?_
  refine pmSeg_U (pc' := 1) (ls' := [some (.ref 112), some (.int v1), some (.int v2), some (.int v3), none, none]) (st' := [.int v3]) 1 rfl ?_
  refine pmU_C (av := [.int v3]) (rest := []) rfl rfl rfl rfl rfl (L_Mo_personOf (d + 0)) ?_
  refine pmSeg_U (pc' := 7) (ls' := [some (.ref 112), some (.int v1), some (.int v2), some (.int v3), some (.int (Mo_personOf v3)), none]) (st' := [.int v3]) 2 rfl ?_
  refine pmU_C (av := [.int v3]) (rest := []) rfl rfl rfl rfl rfl (L_Mo_thingOf (d + 0)) ?_
  refine pmSeg_U (pc' := 13) (ls' := [some (.ref 112), some (.int v1), some (.int v2), some (.int v3), some (.int (Mo_personOf v3)), some (.int (Mo_thingOf v3))]) (st' := [.int v1]) 2 rfl ?_
  refine br_sw h (fun e1 h => ?_) (fun e1 h => ?_)
  · refine pu_sw (v := 70) (tg := 198) e1 rfl rfl rfl ?_
    refine pmSeg_U (pc' := 199) (ls' := [some (.ref 112), some (.int v1), some (.int v2), some (.int v3), some (.int (Mo_personOf v3)), some (.int (Mo_thingOf v3))]) (st' := [.int 0]) 1 rfl ?_
    cases h
    exact pmU_T rfl rfl rfl rfl rfl rfl
  refine br_sw h (fun e2 h => ?_) (fun e2 h => ?_)
  · refine pu_sw (v := 84) (tg := 196) e2 rfl rfl rfl ?_
    refine pmSeg_U (pc' := 197) (ls' := [some (.ref 112), some (.int v1), some (.int v2), some (.int v3), some (.int (Mo_personOf v3)), some (.int (Mo_thingOf v3))]) (st' := [.int 1]) 1 rfl ?_
    cases h
    exact pmU_T rfl rfl rfl rfl rfl rfl
  refine br_sw h (fun e3 h => ?_) (fun e3 h => ?_)
  · refine pu_sw (v := 98) (tg := 207) e3 rfl rfl rfl ?_
    refine pmSeg_U (pc' := 212) (ls' := [some (.ref 112), some (.int v1), some (.int v2), some (.int v3), some (.int (Mo_personOf v3)), some (.int (Mo_thingOf v3))]) (st' := [.int ((v3 >>> (1 &&& 31)) &&& 1)]) 5 rfl ?_
    cases h
    exact pmU_T rfl rfl rfl rfl rfl rfl
  refine br_sw h (fun e4 h => ?_) (fun e4 h => ?_)
  · refine pu_sw (v := 99) (tg := 213) e4 rfl rfl rfl ?_
    refine pmSeg_U (pc' := 216) (ls' := [some (.ref 112), some (.int v1), some (.int v2), some (.int v3), some (.int (Mo_personOf v3)), some (.int (Mo_thingOf v3))]) (st' := [.int (v3 &&& 1)]) 3 rfl ?_
    cases h
    exact pmU_T rfl rfl rfl rfl rfl rfl
  refine br_sw h (fun e5 h => ?_) (fun e5 h => ?_)
  · refine pu_sw (v := 102) (tg := 229) e5 rfl rfl rfl ?_
    refine pmSeg_U (pc' := 233) (ls' := [some (.ref 112), some (.int v1), some (.int v2), some (.int v3), some (.int (Mo_personOf v3)), some (.int (Mo_thingOf v3))]) (st' := [.int (Mo_thingOf v3), .int 2, .ref 112]) 3 rfl ?_
    obtain ⟨q233, hq233, h⟩ := bd_in h
    refine pmU_C (av := [.ref 112, .int 2, .int (Mo_thingOf v3)]) (rest := []) rfl rfl rfl rfl rfl (L_Mo_within (d + 0) hq233) ?_
    refine pmSeg_U (pc' := 240) (ls' := [some (.ref 112), some (.int v1), some (.int v2), some (.int v3), some (.int (Mo_personOf v3)), some (.int (Mo_thingOf v3))]) (st' := [.int ((q233 >>> (v2 &&& 31)) &&& 1)]) 4 rfl ?_
    cases h
    exact pmU_T rfl rfl rfl rfl rfl rfl
  refine br_sw h (fun e6 h => ?_) (fun e6 h => ?_)
  · refine pu_sw (v := 103) (tg := 217) e6 rfl rfl rfl ?_
    refine pmSeg_U (pc' := 221) (ls' := [some (.ref 112), some (.int v1), some (.int v2), some (.int v3), some (.int (Mo_personOf v3)), some (.int (Mo_thingOf v3))]) (st' := [.int (Mo_personOf v3), .int 0, .ref 112]) 3 rfl ?_
    obtain ⟨q221, hq221, h⟩ := bd_in h
    refine pmU_C (av := [.ref 112, .int 0, .int (Mo_personOf v3)]) (rest := []) rfl rfl rfl rfl rfl (L_Mo_within (d + 0) hq221) ?_
    refine pmSeg_U (pc' := 228) (ls' := [some (.ref 112), some (.int v1), some (.int v2), some (.int v3), some (.int (Mo_personOf v3)), some (.int (Mo_thingOf v3))]) (st' := [.int ((q221 >>> (v2 &&& 31)) &&& 1)]) 4 rfl ?_
    cases h
    exact pmU_T rfl rfl rfl rfl rfl rfl
  refine br_sw h (fun e7 h => ?_) (fun e7 h => ?_)
  · refine pu_sw (v := 104) (tg := 241) e7 rfl rfl rfl ?_
    obtain ⟨g8, h⟩ := gd_in h
    refine pmSeg_U (pc' := 251) (ls' := [some (.ref 112), some (.int v1), some (.int v2), some (.int v3), some (.int (Mo_personOf v3)), some (.int (Mo_thingOf v3))]) (st' := [.int ((4 * (Mo_personOf v3)) + v2), .ref 114]) 7 rfl ?_
    refine pu_iald rfl rfl g8 (shp_iM (c := 2) rfl) ?_
    refine pmSeg_U (pc' := 252) (ls' := [some (.ref 112), some (.int v1), some (.int v2), some (.int v3), some (.int (Mo_personOf v3)), some (.int (Mo_thingOf v3))]) (st' := [.int (σ 2 ((4 * (Mo_personOf v3)) + v2).toNatClampNeg)]) 0 rfl ?_
    refine pu_ifP (tg := 259) h rfl rfl rfl (fun h => ?_) (fun h => ?_)
    · refine pmSeg_U (pc' := 260) (ls' := [some (.ref 112), some (.int v1), some (.int v2), some (.int v3), some (.int (Mo_personOf v3)), some (.int (Mo_thingOf v3))]) (st' := [.int 0]) 1 rfl ?_
      cases h
      exact pmU_T rfl rfl rfl rfl rfl rfl
    · refine pmSeg_U (pc' := 260) (ls' := [some (.ref 112), some (.int v1), some (.int v2), some (.int v3), some (.int (Mo_personOf v3)), some (.int (Mo_thingOf v3))]) (st' := [.int 1]) 2 rfl ?_
      cases h
      exact pmU_T rfl rfl rfl rfl rfl rfl
  refine br_sw h (fun e9 h => ?_) (fun e9 h => ?_)
  · refine pu_sw (v := 108) (tg := 291) e9 rfl rfl rfl ?_
    obtain ⟨g10, h⟩ := gd_in h
    refine pmSeg_U (pc' := 297) (ls' := [some (.ref 112), some (.int v1), some (.int v2), some (.int v3), some (.int (Mo_personOf v3)), some (.int (Mo_thingOf v3))]) (st' := [.int (Mo_thingOf v3), .ref 115]) 3 rfl ?_
    refine pu_iald rfl rfl g10 (shp_iM (c := 3) rfl) ?_
    refine pmSeg_U (pc' := 298) (ls' := [some (.ref 112), some (.int v1), some (.int v2), some (.int v3), some (.int (Mo_personOf v3)), some (.int (Mo_thingOf v3))]) (st' := [.int (σ 3 (Mo_thingOf v3).toNatClampNeg)]) 0 rfl ?_
    cases h
    exact pmU_T rfl rfl rfl rfl rfl rfl
  refine br_sw h (fun e11 h => ?_) (fun e11 h => ?_)
  · refine pu_sw (v := 109) (tg := 261) e11 rfl rfl rfl ?_
    obtain ⟨g12, h⟩ := gd_in h
    refine pmSeg_U (pc' := 271) (ls' := [some (.ref 112), some (.int v1), some (.int v2), some (.int v3), some (.int (Mo_personOf v3)), some (.int (Mo_thingOf v3))]) (st' := [.int ((4 * (Mo_personOf v3)) + v2), .ref 114]) 7 rfl ?_
    refine pu_iald rfl rfl g12 (shp_iM (c := 2) rfl) ?_
    refine pmSeg_U (pc' := 272) (ls' := [some (.ref 112), some (.int v1), some (.int v2), some (.int v3), some (.int (Mo_personOf v3)), some (.int (Mo_thingOf v3))]) (st' := [.int (σ 2 ((4 * (Mo_personOf v3)) + v2).toNatClampNeg)]) 0 rfl ?_
    cases h
    exact pmU_T rfl rfl rfl rfl rfl rfl
  refine br_sw h (fun e13 h => ?_) (fun e13 h => ?_)
  · refine pu_sw (v := 110) (tg := 200) e13 rfl rfl rfl ?_
    refine pmSeg_U (pc' := 206) (ls' := [some (.ref 112), some (.int v1), some (.int v2), some (.int v3), some (.int (Mo_personOf v3)), some (.int (Mo_thingOf v3))]) (st' := [.int ((v3 >>> (2 &&& 31)) &&& 7)]) 5 rfl ?_
    cases h
    exact pmU_T rfl rfl rfl rfl rfl rfl
  refine br_sw h (fun e14 h => ?_) (fun e14 h => ?_)
  · refine pu_sw (v := 111) (tg := 273) e14 rfl rfl rfl ?_
    obtain ⟨g15, h⟩ := gd_in h
    refine pmSeg_U (pc' := 279) (ls' := [some (.ref 112), some (.int v1), some (.int v2), some (.int v3), some (.int (Mo_personOf v3)), some (.int (Mo_thingOf v3))]) (st' := [.int (Mo_thingOf v3), .ref 116]) 3 rfl ?_
    refine pu_iald rfl rfl g15 (shp_iM (c := 4) rfl) ?_
    refine pmSeg_U (pc' := 282) (ls' := [some (.ref 112), some (.int v1), some (.int v2), some (.int v3), some (.int (Mo_personOf v3)), some (.int (Mo_thingOf v3))]) (st' := [.int (Mo_personOf v3), .int (σ 4 (Mo_thingOf v3).toNatClampNeg)]) 1 rfl ?_
    refine pu_icmpP (tg := 289) h rfl rfl rfl (fun h => ?_) (fun h => ?_)
    · refine pmSeg_U (pc' := 290) (ls' := [some (.ref 112), some (.int v1), some (.int v2), some (.int v3), some (.int (Mo_personOf v3)), some (.int (Mo_thingOf v3))]) (st' := [.int 0]) 1 rfl ?_
      cases h
      exact pmU_T rfl rfl rfl rfl rfl rfl
    · refine pmSeg_U (pc' := 290) (ls' := [some (.ref 112), some (.int v1), some (.int v2), some (.int v3), some (.int (Mo_personOf v3)), some (.int (Mo_thingOf v3))]) (st' := [.int 1]) 2 rfl ?_
      cases h
      exact pmU_T rfl rfl rfl rfl rfl rfl
  refine pu_tswD (tg := 299) rfl rfl ⟨Or.inr (lv_neT e1 rfl), Or.inl rfl, Or.inl rfl, Or.inl rfl, Or.inl rfl, Or.inl rfl, Or.inl rfl, Or.inl rfl, Or.inl rfl, Or.inl rfl, Or.inl rfl, Or.inl rfl, Or.inl rfl, Or.inl rfl, Or.inr (lv_neT e2 rfl), Or.inl rfl, Or.inl rfl, Or.inl rfl, Or.inl rfl, Or.inl rfl, Or.inl rfl, Or.inl rfl, Or.inl rfl, Or.inl rfl, Or.inl rfl, Or.inl rfl, Or.inl rfl, Or.inl rfl, Or.inr (lv_neT e3 rfl), Or.inr (lv_neT e4 rfl), Or.inl rfl, Or.inl rfl, Or.inr (lv_neT e5 rfl), Or.inr (lv_neT e6 rfl), Or.inr (lv_neT e7 rfl), Or.inl rfl, Or.inl rfl, Or.inl rfl, Or.inr (lv_neT e9 rfl), Or.inr (lv_neT e11 rfl), Or.inr (lv_neT e13 rfl), Or.inr (lv_neT e14 rfl), trivial⟩ rfl ?_
  refine pmSeg_U (pc' := 300) (ls' := [some (.ref 112), some (.int v1), some (.int v2), some (.int v3), some (.int (Mo_personOf v3)), some (.int (Mo_thingOf v3))]) (st' := [.int v2]) 1 rfl ?_
  cases h
  exact pmU_T rfl rfl rfl rfl rfl rfl
theorem L_Mo_reckon' {S : pmS} (d : Nat) {v0 : Int32} {v1 : Int32} {v2 : Int32} {h0 : pmH} {z : Int32} (h : Mo_reckon v0 v1 v2 = z) : pmX S (d + 1) 141 [.int v0, .int v1, .int v2] h0 (some (.int z)) h0 := by
  unfold Mo_reckon at h
  refine pmU_X rfl ?_
  refine pmSeg_U (pc' := 1) (ls' := [some (.int v0), some (.int v1), some (.int v2)]) (st' := [.int v0]) 1 rfl ?_
  refine br_sw h (fun e1 h => ?_) (fun e1 h => ?_)
  · refine pu_sw (v := 43) (tg := 44) e1 rfl rfl rfl ?_
    refine pmSeg_U (pc' := 47) (ls' := [some (.int v0), some (.int v1), some (.int v2)]) (st' := [.int (v1 + v2)]) 3 rfl ?_
    cases h
    exact pmU_T rfl rfl rfl rfl rfl rfl
  refine br_sw h (fun e2 h => ?_) (fun e2 h => ?_)
  · refine pu_sw (v := 45) (tg := 48) e2 rfl rfl rfl ?_
    refine pmSeg_U (pc' := 51) (ls' := [some (.int v0), some (.int v1), some (.int v2)]) (st' := [.int (v1 - v2)]) 3 rfl ?_
    cases h
    exact pmU_T rfl rfl rfl rfl rfl rfl
  refine br_sw h (fun e3 h => ?_) (fun e3 h => ?_)
  · refine pu_sw (v := 60) (tg := 52) e3 rfl rfl rfl ?_
    refine pmSeg_U (pc' := 54) (ls' := [some (.int v0), some (.int v1), some (.int v2)]) (st' := [.int v2, .int v1]) 2 rfl ?_
    refine pu_icmpP (tg := 61) h rfl rfl rfl (fun h => ?_) (fun h => ?_)
    · refine pmSeg_U (pc' := 62) (ls' := [some (.int v0), some (.int v1), some (.int v2)]) (st' := [.int 0]) 1 rfl ?_
      cases h
      exact pmU_T rfl rfl rfl rfl rfl rfl
    · refine pmSeg_U (pc' := 62) (ls' := [some (.int v0), some (.int v1), some (.int v2)]) (st' := [.int 1]) 2 rfl ?_
      cases h
      exact pmU_T rfl rfl rfl rfl rfl rfl
  refine br_sw h (fun e4 h => ?_) (fun e4 h => ?_)
  · refine pu_sw (v := 61) (tg := 63) e4 rfl rfl rfl ?_
    refine pmSeg_U (pc' := 65) (ls' := [some (.int v0), some (.int v1), some (.int v2)]) (st' := [.int v2, .int v1]) 2 rfl ?_
    refine pu_icmpP (tg := 72) h rfl rfl rfl (fun h => ?_) (fun h => ?_)
    · refine pmSeg_U (pc' := 73) (ls' := [some (.int v0), some (.int v1), some (.int v2)]) (st' := [.int 0]) 1 rfl ?_
      cases h
      exact pmU_T rfl rfl rfl rfl rfl rfl
    · refine pmSeg_U (pc' := 73) (ls' := [some (.int v0), some (.int v1), some (.int v2)]) (st' := [.int 1]) 2 rfl ?_
      cases h
      exact pmU_T rfl rfl rfl rfl rfl rfl
  refine pu_lswD (tg := 74) rfl rfl (ls_c (lv_neT e1 rfl) (ls_c (lv_neT e2 rfl) (ls_c (lv_neT e3 rfl) (ls_c (lv_neT e4 rfl) ls_n)))) rfl ?_
  refine pmSeg_U (pc' := 76) (ls' := [some (.int v0), some (.int v1), some (.int v2)]) (st' := [.int v2, .int v1]) 2 rfl ?_
  refine pu_icmpP (tg := 83) h rfl rfl rfl (fun h => ?_) (fun h => ?_)
  · refine pmSeg_U (pc' := 84) (ls' := [some (.int v0), some (.int v1), some (.int v2)]) (st' := [.int 0]) 1 rfl ?_
    cases h
    exact pmU_T rfl rfl rfl rfl rfl rfl
  · refine pmSeg_U (pc' := 84) (ls' := [some (.int v0), some (.int v1), some (.int v2)]) (st' := [.int 1]) 2 rfl ?_
    cases h
    exact pmU_T rfl rfl rfl rfl rfl rfl
theorem L_Mo_reckon {S : pmS} (d : Nat) {v0 : Int32} {v1 : Int32} {v2 : Int32} {h0 : pmH} : pmX S (d + 1) 141 [.int v0, .int v1, .int v2] h0 (some (.int (Mo_reckon v0 v1 v2))) h0 := L_Mo_reckon' d rfl
theorem L_Mo_isSign' {S : pmS} (d : Nat) {v0 : Int32} {h0 : pmH} {z : Int32} (h : Mo_isSign v0 = z) : pmX S (d + 1) 140 [.int v0] h0 (some (.int z)) h0 := by
  unfold Mo_isSign at h
  refine pmU_X rfl ?_
  refine pmSeg_U (pc' := 3) (ls' := [some (.int v0)]) (st' := [.int 43, .int v0]) 2 rfl ?_
  refine pu_icmpP (tg := 30) h rfl rfl rfl (fun h => ?_) (fun h => ?_)
  · refine pmSeg_U (pc' := 35) (ls' := [some (.int v0)]) (st' := [.int 1]) 2 rfl ?_
    cases h
    exact pmU_T rfl rfl rfl rfl rfl rfl
  · refine pmSeg_U (pc' := 9) (ls' := [some (.int v0)]) (st' := [.int 45, .int v0]) 2 rfl ?_
    refine pu_icmpP (tg := 30) h rfl rfl rfl (fun h => ?_) (fun h => ?_)
    · refine pmSeg_U (pc' := 35) (ls' := [some (.int v0)]) (st' := [.int 1]) 2 rfl ?_
      cases h
      exact pmU_T rfl rfl rfl rfl rfl rfl
    · refine pmSeg_U (pc' := 15) (ls' := [some (.int v0)]) (st' := [.int 60, .int v0]) 2 rfl ?_
      refine pu_icmpP (tg := 30) h rfl rfl rfl (fun h => ?_) (fun h => ?_)
      · refine pmSeg_U (pc' := 35) (ls' := [some (.int v0)]) (st' := [.int 1]) 2 rfl ?_
        cases h
        exact pmU_T rfl rfl rfl rfl rfl rfl
      · refine pmSeg_U (pc' := 21) (ls' := [some (.int v0)]) (st' := [.int 61, .int v0]) 2 rfl ?_
        refine pu_icmpP (tg := 30) h rfl rfl rfl (fun h => ?_) (fun h => ?_)
        · refine pmSeg_U (pc' := 35) (ls' := [some (.int v0)]) (st' := [.int 1]) 2 rfl ?_
          cases h
          exact pmU_T rfl rfl rfl rfl rfl rfl
        · refine pmSeg_U (pc' := 27) (ls' := [some (.int v0)]) (st' := [.int 35, .int v0]) 2 rfl ?_
          refine pu_icmpP (tg := 34) h rfl rfl rfl (fun h => ?_) (fun h => ?_)
          · refine pmSeg_U (pc' := 35) (ls' := [some (.int v0)]) (st' := [.int 0]) 1 rfl ?_
            cases h
            exact pmU_T rfl rfl rfl rfl rfl rfl
          · refine pmSeg_U (pc' := 35) (ls' := [some (.int v0)]) (st' := [.int 1]) 2 rfl ?_
            cases h
            exact pmU_T rfl rfl rfl rfl rfl rfl
theorem L_Mo_isSign {S : pmS} (d : Nat) {v0 : Int32} {h0 : pmH} : pmX S (d + 1) 140 [.int v0] h0 (some (.int (Mo_isSign v0))) h0 := L_Mo_isSign' d rfl
theorem bz_Mo_isSign {v0 : Int32} : (Mo_isSign v0 == 0 || Mo_isSign v0 == 1) = true := by
  unfold Mo_isSign
  first | rfl | (split <;> first | rfl | (split <;> first | rfl | (split <;> first | rfl | (split <;> first | rfl | (split <;> first | rfl | (split <;> first | rfl | (split <;> first | rfl | (split <;> first | rfl))))))))
theorem L_Mo_work_b175 {S : pmS} (d : Nat)   {k88 : Int32 → Int32 → Int32 → Int32 → Mem → Option (Int32 × Mem)} (Hk88 : ∀ {v1 : Int32} {v2 : Int32} {v5 : Int32} {v6 : Int32} {σ τ : Mem} {z : Int32 × Mem}, k88 v1 v2 v5 v6 σ = some z → pmU S (d + 2) 136 88 [some (.ref 112), some (.int v1), some (.int v2), none, none, some (.int v5), some (.int v6), none, none, none] [] (shH τ σ) (some (.int z.1)) (shH τ z.2)) {v1 : Int32} {v2 : Int32} {v5 : Int32} {v6 : Int32} {s0 : Int32} {s1 : Int32} {σ τ : Mem} {z : Int32 × Mem}  (h : Mo_work_b175 k88 v1 v2 v5 v6 s0 s1 σ = some z) : pmU S (d + 2) 136 175 [some (.ref 112), some (.int v1), some (.int v2), none, none, some (.int v5), some (.int v6), none, none, none] [.int s1, .int s0] (shH τ σ) (some (.int z.1)) (shH τ z.2) := by
  unfold Mo_work_b175 at h
  refine pmSeg_U (pc' := 175) (ls' := [some (.ref 112), some (.int v1), some (.int v2), none, none, some (.int v5), some (.int v6), none, none, none]) (st' := [.int s1, .int s0]) 0 rfl ?_
  refine pu_icmpP (tg := 411) h rfl rfl rfl (fun h => ?_) (fun h => ?_)
  · refine pmSeg_U (pc' := 88) (ls' := [some (.ref 112), some (.int v1), some (.int v2), none, none, some (.int v5), some (.int v6), none, none, none]) (st' := []) 1 rfl ?_
    exact Hk88 h
  · refine pmSeg_U (pc' := 179) (ls' := [some (.ref 112), some (.int v1), some (.int v2), none, none, some (.int v5), some (.int v6), none, none, none]) (st' := [.int 0]) 1 rfl ?_
    cases h
    exact pmU_T rfl rfl rfl rfl rfl rfl
theorem L_Mo_work_b164 {S : pmS} (d : Nat)   {k88 : Int32 → Int32 → Int32 → Int32 → Mem → Option (Int32 × Mem)} (Hk88 : ∀ {v1 : Int32} {v2 : Int32} {v5 : Int32} {v6 : Int32} {σ τ : Mem} {z : Int32 × Mem}, k88 v1 v2 v5 v6 σ = some z → pmU S (d + 2) 136 88 [some (.ref 112), some (.int v1), some (.int v2), none, none, some (.int v5), some (.int v6), none, none, none] [] (shH τ σ) (some (.int z.1)) (shH τ z.2)) {v1 : Int32} {v2 : Int32} {v5 : Int32} {v6 : Int32} {v7 : Int32} {s0 : Int32} {σ τ : Mem} {z : Int32 × Mem}  (h : Mo_work_b164 k88 v1 v2 v5 v6 v7 s0 σ = some z) : pmU S (d + 2) 136 164 [some (.ref 112), some (.int v1), some (.int v2), none, none, some (.int v5), some (.int v6), some (.int v7), none, none] [.int s0] (shH τ σ) (some (.int z.1)) (shH τ z.2) := by
  unfold Mo_work_b164 at h
  refine pmSeg_U (pc' := 167) (ls' := [some (.ref 112), some (.int v1), some (.int v2), none, none, some (.int v5), some (.int v6), some (.int v7), none, none]) (st' := [.int 5, .int v7, .int s0]) 2 rfl ?_
  refine pu_icmpP (tg := 174) h rfl rfl rfl (fun h => ?_) (fun h => ?_)
  · refine pmSeg_U (pc' := 175) (ls' := [some (.ref 112), some (.int v1), some (.int v2), none, none, some (.int v5), some (.int v6), some (.int v7), none, none]) (st' := [.int 0, .int s0]) 1 rfl ?_
    refine pmU_le (a := [some (.ref 112), some (.int v1), some (.int v2), none, none, some (.int v5), some (.int v6), none, none, none]) (le_s (le_s (le_s (le_s (le_s (le_s (le_s (le_v rfl (le_s (le_s le_nil)))))))))) ?_
    exact L_Mo_work_b175 d Hk88 h
  · refine pmSeg_U (pc' := 175) (ls' := [some (.ref 112), some (.int v1), some (.int v2), none, none, some (.int v5), some (.int v6), some (.int v7), none, none]) (st' := [.int 1, .int s0]) 2 rfl ?_
    refine pmU_le (a := [some (.ref 112), some (.int v1), some (.int v2), none, none, some (.int v5), some (.int v6), none, none, none]) (le_s (le_s (le_s (le_s (le_s (le_s (le_s (le_v rfl (le_s (le_s le_nil)))))))))) ?_
    exact L_Mo_work_b175 d Hk88 h
theorem L_Mo_work_b145 {S : pmS} (d : Nat)   {k88 : Int32 → Int32 → Int32 → Int32 → Mem → Option (Int32 × Mem)} (Hk88 : ∀ {v1 : Int32} {v2 : Int32} {v5 : Int32} {v6 : Int32} {σ τ : Mem} {z : Int32 × Mem}, k88 v1 v2 v5 v6 σ = some z → pmU S (d + 2) 136 88 [some (.ref 112), some (.int v1), some (.int v2), none, none, some (.int v5), some (.int v6), none, none, none] [] (shH τ σ) (some (.int z.1)) (shH τ z.2)) {v1 : Int32} {v2 : Int32} {v5 : Int32} {v6 : Int32} {v7 : Int32} {σ τ : Mem} {z : Int32 × Mem}  (h : Mo_work_b145 k88 v1 v2 v5 v6 v7 σ = some z) : pmU S (d + 2) 136 145 [some (.ref 112), some (.int v1), some (.int v2), none, none, some (.int v5), some (.int v6), some (.int v7), none, none] [] (shH τ σ) (some (.int z.1)) (shH τ z.2) := by
  unfold Mo_work_b145 at h
  obtain ⟨g1, h⟩ := gd_in h
  refine pmSeg_U (pc' := 154) (ls' := [some (.ref 112), some (.int v1), some (.int v2), none, none, some (.int (v5 + (-1))), some (.int v6), some (.int v7), none, none]) (st' := [.int (v5 + (-1)), .ref 153]) 4 rfl ?_
  refine pu_iald rfl rfl g1 (shp_iM (c := 41) rfl) ?_
  refine pmSeg_U (pc' := 156) (ls' := [some (.ref 112), some (.int v1), some (.int v2), none, none, some (.int (v5 + (-1))), some (.int v6), some (.int v7), none, none]) (st' := [.int 1, .int (σ 41 (v5 + (-1)).toNatClampNeg)]) 1 rfl ?_
  refine pu_icmpP (tg := 163) h rfl rfl rfl (fun h => ?_) (fun h => ?_)
  · refine pmSeg_U (pc' := 164) (ls' := [some (.ref 112), some (.int v1), some (.int v2), none, none, some (.int (v5 + (-1))), some (.int v6), some (.int v7), none, none]) (st' := [.int 0]) 1 rfl ?_
    exact L_Mo_work_b164 d Hk88 h
  · refine pmSeg_U (pc' := 164) (ls' := [some (.ref 112), some (.int v1), some (.int v2), none, none, some (.int (v5 + (-1))), some (.int v6), some (.int v7), none, none]) (st' := [.int 1]) 2 rfl ?_
    exact L_Mo_work_b164 d Hk88 h
theorem L_Mo_work_b286 {S : pmS} (d : Nat)   {k88 : Int32 → Int32 → Int32 → Int32 → Mem → Option (Int32 × Mem)} (Hk88 : ∀ {v1 : Int32} {v2 : Int32} {v5 : Int32} {v6 : Int32} {σ τ : Mem} {z : Int32 × Mem}, k88 v1 v2 v5 v6 σ = some z → pmU S (d + 2) 136 88 [some (.ref 112), some (.int v1), some (.int v2), none, none, some (.int v5), some (.int v6), none, none, none] [] (shH τ σ) (some (.int z.1)) (shH τ z.2)) {v1 : Int32} {v2 : Int32} {v5 : Int32} {v9 : Int32} {s0 : Int32} {σ τ : Mem} {z : Int32 × Mem}  (h : Mo_work_b286 k88 v1 v2 v5 v9 s0 σ = some z) : pmU S (d + 2) 136 286 [some (.ref 112), some (.int v1), some (.int v2), none, none, some (.int v5), none, none, none, some (.int v9)] [.int s0] (shH τ σ) (some (.int z.1)) (shH τ z.2) := by
  unfold Mo_work_b286 at h
  refine pmSeg_U (pc' := 290) (ls' := [some (.ref 112), some (.int v1), some (.int v2), none, none, some (.int v5), some (.int s0), none, none, some (.int v9)]) (st' := [.int v9]) 2 rfl ?_
  refine pu_ifP (tg := 298) h rfl rfl rfl (fun h => ?_) (fun h => ?_)
  · refine pmSeg_U (pc' := 88) (ls' := [some (.ref 112), some (.int v1), some (.int v2), none, none, some (.int (v5 - 1)), some (.int s0), none, none, some (.int v9)]) (st' := []) 6 rfl ?_
    refine pmU_le (a := [some (.ref 112), some (.int v1), some (.int v2), none, none, some (.int (v5 - 1)), some (.int s0), none, none, none]) (le_s (le_s (le_s (le_s (le_s (le_s (le_s (le_s (le_s (le_v rfl le_nil)))))))))) ?_
    exact Hk88 h
  · refine pmSeg_U (pc' := 88) (ls' := [some (.ref 112), some (.int v1), some (.int v2), none, none, some (.int v5), some (.int s0), none, none, some (.int v9)]) (st' := []) 5 rfl ?_
    refine pmU_le (a := [some (.ref 112), some (.int v1), some (.int v2), none, none, some (.int v5), some (.int s0), none, none, none]) (le_s (le_s (le_s (le_s (le_s (le_s (le_s (le_s (le_s (le_v rfl le_nil)))))))))) ?_
    exact Hk88 h
theorem L_Mo_work_b272 {S : pmS} (d : Nat)   {k88 : Int32 → Int32 → Int32 → Int32 → Mem → Option (Int32 × Mem)} (Hk88 : ∀ {v1 : Int32} {v2 : Int32} {v5 : Int32} {v6 : Int32} {σ τ : Mem} {z : Int32 × Mem}, k88 v1 v2 v5 v6 σ = some z → pmU S (d + 2) 136 88 [some (.ref 112), some (.int v1), some (.int v2), none, none, some (.int v5), some (.int v6), none, none, none] [] (shH τ σ) (some (.int z.1)) (shH τ z.2)) {v1 : Int32} {v2 : Int32} {v5 : Int32} {v6 : Int32} {v8 : Int32} {s0 : Int32} {σ τ : Mem} {z : Int32 × Mem}  (h : Mo_work_b272 k88 v1 v2 v5 v6 v8 s0 σ = some z) : pmU S (d + 2) 136 272 [some (.ref 112), some (.int v1), some (.int v2), none, none, some (.int v5), some (.int v6), none, some (.int v8), none] [.int s0] (shH τ σ) (some (.int z.1)) (shH τ z.2) := by
  unfold Mo_work_b272 at h
  refine pmSeg_U (pc' := 276) (ls' := [some (.ref 112), some (.int v1), some (.int v2), none, none, some (.int v5), some (.int v6), none, some (.int v8), some (.int s0)]) (st' := [.int s0]) 2 rfl ?_
  refine pu_ifP (tg := 284) h rfl rfl rfl (fun h => ?_) (fun h => ?_)
  · refine pmSeg_U (pc' := 286) (ls' := [some (.ref 112), some (.int v1), some (.int v2), none, none, some (.int v5), some (.int v6), none, some (.int v8), some (.int s0)]) (st' := [.int v6]) 1 rfl ?_
    refine pmU_le (a := [some (.ref 112), some (.int v1), some (.int v2), none, none, some (.int v5), none, none, none, some (.int s0)]) (le_s (le_s (le_s (le_s (le_s (le_s (le_v rfl (le_s (le_v rfl (le_s le_nil)))))))))) ?_
    exact L_Mo_work_b286 d Hk88 h
  · refine pmSeg_U (pc' := 286) (ls' := [some (.ref 112), some (.int v1), some (.int v2), none, none, some (.int v5), some (.int v6), none, some (.int v8), some (.int s0)]) (st' := [.int v8]) 2 rfl ?_
    refine pmU_le (a := [some (.ref 112), some (.int v1), some (.int v2), none, none, some (.int v5), none, none, none, some (.int s0)]) (le_s (le_s (le_s (le_s (le_s (le_s (le_v rfl (le_s (le_v rfl (le_s le_nil)))))))))) ?_
    exact L_Mo_work_b286 d Hk88 h
theorem L_Mo_work_b264 {S : pmS} (d : Nat)   {k88 : Int32 → Int32 → Int32 → Int32 → Mem → Option (Int32 × Mem)} (Hk88 : ∀ {v1 : Int32} {v2 : Int32} {v5 : Int32} {v6 : Int32} {σ τ : Mem} {z : Int32 × Mem}, k88 v1 v2 v5 v6 σ = some z → pmU S (d + 2) 136 88 [some (.ref 112), some (.int v1), some (.int v2), none, none, some (.int v5), some (.int v6), none, none, none] [] (shH τ σ) (some (.int z.1)) (shH τ z.2)) {v1 : Int32} {v2 : Int32} {v5 : Int32} {v6 : Int32} {v8 : Int32} {s0 : Int32} {s1 : Int32} {σ τ : Mem} {z : Int32 × Mem}  (h : Mo_work_b264 k88 v1 v2 v5 v6 v8 s0 s1 σ = some z) : pmU S (d + 2) 136 264 [some (.ref 112), some (.int v1), some (.int v2), none, none, some (.int v5), some (.int v6), none, some (.int v8), none] [.int s1, .int s0] (shH τ σ) (some (.int z.1)) (shH τ z.2) := by
  unfold Mo_work_b264 at h
  refine pmSeg_U (pc' := 264) (ls' := [some (.ref 112), some (.int v1), some (.int v2), none, none, some (.int v5), some (.int v6), none, some (.int v8), none]) (st' := [.int s1, .int s0]) 0 rfl ?_
  refine pu_icmpP (tg := 271) h rfl rfl rfl (fun h => ?_) (fun h => ?_)
  · refine pmSeg_U (pc' := 272) (ls' := [some (.ref 112), some (.int v1), some (.int v2), none, none, some (.int v5), some (.int v6), none, some (.int v8), none]) (st' := [.int 0]) 1 rfl ?_
    exact L_Mo_work_b272 d Hk88 h
  · refine pmSeg_U (pc' := 272) (ls' := [some (.ref 112), some (.int v1), some (.int v2), none, none, some (.int v5), some (.int v6), none, some (.int v8), none]) (st' := [.int 1]) 2 rfl ?_
    exact L_Mo_work_b272 d Hk88 h
theorem L_Mo_work_b253 {S : pmS} (d : Nat)   {k88 : Int32 → Int32 → Int32 → Int32 → Mem → Option (Int32 × Mem)} (Hk88 : ∀ {v1 : Int32} {v2 : Int32} {v5 : Int32} {v6 : Int32} {σ τ : Mem} {z : Int32 × Mem}, k88 v1 v2 v5 v6 σ = some z → pmU S (d + 2) 136 88 [some (.ref 112), some (.int v1), some (.int v2), none, none, some (.int v5), some (.int v6), none, none, none] [] (shH τ σ) (some (.int z.1)) (shH τ z.2)) {v1 : Int32} {v2 : Int32} {v5 : Int32} {v6 : Int32} {v7 : Int32} {v8 : Int32} {s0 : Int32} {σ τ : Mem} {z : Int32 × Mem}  (h : Mo_work_b253 k88 v1 v2 v5 v6 v7 v8 s0 σ = some z) : pmU S (d + 2) 136 253 [some (.ref 112), some (.int v1), some (.int v2), none, none, some (.int v5), some (.int v6), some (.int v7), some (.int v8), none] [.int s0] (shH τ σ) (some (.int z.1)) (shH τ z.2) := by
  unfold Mo_work_b253 at h
  refine pmSeg_U (pc' := 256) (ls' := [some (.ref 112), some (.int v1), some (.int v2), none, none, some (.int v5), some (.int v6), some (.int v7), some (.int v8), none]) (st' := [.int 1, .int v7, .int s0]) 2 rfl ?_
  refine pu_icmpP (tg := 263) h rfl rfl rfl (fun h => ?_) (fun h => ?_)
  · refine pmSeg_U (pc' := 264) (ls' := [some (.ref 112), some (.int v1), some (.int v2), none, none, some (.int v5), some (.int v6), some (.int v7), some (.int v8), none]) (st' := [.int 0, .int s0]) 1 rfl ?_
    refine pmU_le (a := [some (.ref 112), some (.int v1), some (.int v2), none, none, some (.int v5), some (.int v6), none, some (.int v8), none]) (le_s (le_s (le_s (le_s (le_s (le_s (le_s (le_v rfl (le_s (le_s le_nil)))))))))) ?_
    exact L_Mo_work_b264 d Hk88 h
  · refine pmSeg_U (pc' := 264) (ls' := [some (.ref 112), some (.int v1), some (.int v2), none, none, some (.int v5), some (.int v6), some (.int v7), some (.int v8), none]) (st' := [.int 1, .int s0]) 2 rfl ?_
    refine pmU_le (a := [some (.ref 112), some (.int v1), some (.int v2), none, none, some (.int v5), some (.int v6), none, some (.int v8), none]) (le_s (le_s (le_s (le_s (le_s (le_s (le_s (le_v rfl (le_s (le_s le_nil)))))))))) ?_
    exact L_Mo_work_b264 d Hk88 h
theorem L_Mo_work_b236 {S : pmS} (d : Nat)   {k88 : Int32 → Int32 → Int32 → Int32 → Mem → Option (Int32 × Mem)} (Hk88 : ∀ {v1 : Int32} {v2 : Int32} {v5 : Int32} {v6 : Int32} {σ τ : Mem} {z : Int32 × Mem}, k88 v1 v2 v5 v6 σ = some z → pmU S (d + 2) 136 88 [some (.ref 112), some (.int v1), some (.int v2), none, none, some (.int v5), some (.int v6), none, none, none] [] (shH τ σ) (some (.int z.1)) (shH τ z.2)) {v1 : Int32} {v2 : Int32} {v5 : Int32} {v6 : Int32} {v7 : Int32} {v8 : Int32} {σ τ : Mem} {z : Int32 × Mem}  (h : Mo_work_b236 k88 v1 v2 v5 v6 v7 v8 σ = some z) : pmU S (d + 2) 136 236 [some (.ref 112), some (.int v1), some (.int v2), none, none, some (.int v5), some (.int v6), some (.int v7), some (.int v8), none] [] (shH τ σ) (some (.int z.1)) (shH τ z.2) := by
  unfold Mo_work_b236 at h
  obtain ⟨g1, h⟩ := gd_in h
  refine pmSeg_U (pc' := 244) (ls' := [some (.ref 112), some (.int v1), some (.int v2), none, none, some (.int v5), some (.int v6), some (.int v7), some (.int v8), none]) (st' := [.int (v5 - 1), .ref 153]) 5 rfl ?_
  refine pu_iald rfl rfl g1 (shp_iM (c := 41) rfl) ?_
  refine pmSeg_U (pc' := 245) (ls' := [some (.ref 112), some (.int v1), some (.int v2), none, none, some (.int v5), some (.int v6), some (.int v7), some (.int v8), none]) (st' := [.int (σ 41 (v5 - 1).toNatClampNeg)]) 0 rfl ?_
  refine pu_ifP (tg := 252) h rfl rfl rfl (fun h => ?_) (fun h => ?_)
  · refine pmSeg_U (pc' := 253) (ls' := [some (.ref 112), some (.int v1), some (.int v2), none, none, some (.int v5), some (.int v6), some (.int v7), some (.int v8), none]) (st' := [.int 0]) 1 rfl ?_
    exact L_Mo_work_b253 d Hk88 h
  · refine pmSeg_U (pc' := 253) (ls' := [some (.ref 112), some (.int v1), some (.int v2), none, none, some (.int v5), some (.int v6), some (.int v7), some (.int v8), none]) (st' := [.int 1]) 2 rfl ?_
    exact L_Mo_work_b253 d Hk88 h
theorem L_Mo_work_b88 {S : pmS} (d : Nat)    : ∀ (n0 : Nat) {v1 : Int32} {v2 : Int32} {v5 : Int32} {v6 : Int32} {σ τ : Mem} {z : Int32 × Mem}, Mo_work_b88 n0 v1 v2 v5 v6 σ = some z → pmU S (d + 2) 136 88 [some (.ref 112), some (.int v1), some (.int v2), none, none, some (.int v5), some (.int v6), none, none, none] [] (shH τ σ) (some (.int z.1)) (shH τ z.2) := by
  intro n0
  induction n0 with
  | zero =>
    intro v1 v2 v5 v6 σ τ z  h
    unfold Mo_work_b88 at h
    cases h
  | succ n1 ih =>
    intro v1 v2 v5 v6 σ τ z  h
    unfold Mo_work_b88 at h
    obtain ⟨g1, h⟩ := gd_in h
    refine pmSeg_U (pc' := 95) (ls' := [some (.ref 112), some (.int v1), some (.int v2), none, none, some (.int v5), some (.int v6), none, none, none]) (st' := [.int v1, .ref 123, .int v6]) 4 rfl ?_
    refine pu_iald rfl rfl g1 (shp_iM (c := 11) rfl) ?_
    refine pmSeg_U (pc' := 96) (ls' := [some (.ref 112), some (.int v1), some (.int v2), none, none, some (.int v5), some (.int v6), none, none, none]) (st' := [.int (σ 11 v1.toNatClampNeg), .int v6]) 0 rfl ?_
    refine pu_icmpP (tg := 414) h rfl rfl rfl (fun h => ?_) (fun h => ?_)
    · refine pmSeg_U (pc' := 415) (ls' := [some (.ref 112), some (.int v1), some (.int v2), none, none, some (.int v5), some (.int v6), none, none, none]) (st' := [.int 1]) 1 rfl ?_
      cases h
      exact pmU_T rfl rfl rfl rfl rfl rfl
    · obtain ⟨g2, h⟩ := gd_in h
      refine pmSeg_U (pc' := 111) (ls' := [some (.ref 112), some (.int v1), some (.int v2), none, none, some (.int v5), some (.int v6), none, none, none]) (st' := [.int ((160 * v1) + v6), .ref 124]) 7 rfl ?_
      refine pu_iald rfl rfl g2 (shp_iM (c := 12) rfl) ?_
      obtain ⟨g3, h⟩ := gd_in h
      refine pmSeg_U (pc' := 126) (ls' := [some (.ref 112), some (.int v1), some (.int v2), none, none, some (.int v5), some (.int v6), some (.int (σ 12 ((160 * v1) + v6).toNatClampNeg)), none, none]) (st' := [.int ((160 * v1) + v6), .ref 125]) 8 rfl ?_
      refine pu_iald rfl rfl g3 (shp_iM (c := 13) rfl) ?_
      refine pmSeg_U (pc' := 135) (ls' := [some (.ref 112), some (.int v1), some (.int v2), none, none, some (.int v5), some (.int (v6 + 1)), some (.int (σ 12 ((160 * v1) + v6).toNatClampNeg)), some (.int (σ 13 ((160 * v1) + v6).toNatClampNeg)), none]) (st' := [.int 5, .int (σ 12 ((160 * v1) + v6).toNatClampNeg)]) 4 rfl ?_
      refine pu_icmpP (tg := 145) h rfl rfl rfl (fun h => ?_) (fun h => ?_)
      · refine pmSeg_U (pc' := 145) (ls' := [some (.ref 112), some (.int v1), some (.int v2), none, none, some (.int v5), some (.int (v6 + 1)), some (.int (σ 12 ((160 * v1) + v6).toNatClampNeg)), some (.int (σ 13 ((160 * v1) + v6).toNatClampNeg)), none]) (st' := []) 0 rfl ?_
        refine pmU_le (a := [some (.ref 112), some (.int v1), some (.int v2), none, none, some (.int v5), some (.int (v6 + 1)), some (.int (σ 12 ((160 * v1) + v6).toNatClampNeg)), none, none]) (le_s (le_s (le_s (le_s (le_s (le_s (le_s (le_s (le_v rfl (le_s le_nil)))))))))) ?_
        exact L_Mo_work_b145 d ih h
      · refine pmSeg_U (pc' := 142) (ls' := [some (.ref 112), some (.int v1), some (.int v2), none, none, some (.int v5), some (.int (v6 + 1)), some (.int (σ 12 ((160 * v1) + v6).toNatClampNeg)), some (.int (σ 13 ((160 * v1) + v6).toNatClampNeg)), none]) (st' := [.int 6, .int (σ 12 ((160 * v1) + v6).toNatClampNeg)]) 2 rfl ?_
        refine pu_icmpP (tg := 180) h rfl rfl rfl (fun h => ?_) (fun h => ?_)
        · refine pmSeg_U (pc' := 183) (ls' := [some (.ref 112), some (.int v1), some (.int v2), none, none, some (.int v5), some (.int (v6 + 1)), some (.int (σ 12 ((160 * v1) + v6).toNatClampNeg)), some (.int (σ 13 ((160 * v1) + v6).toNatClampNeg)), none]) (st' := [.int 4, .int (σ 12 ((160 * v1) + v6).toNatClampNeg)]) 2 rfl ?_
          refine pu_icmpP (tg := 193) h rfl rfl rfl (fun h => ?_) (fun h => ?_)
          · refine pmSeg_U (pc' := 196) (ls' := [some (.ref 112), some (.int v1), some (.int v2), none, none, some (.int v5), some (.int (v6 + 1)), some (.int (σ 12 ((160 * v1) + v6).toNatClampNeg)), some (.int (σ 13 ((160 * v1) + v6).toNatClampNeg)), none]) (st' := [.int 3, .int (σ 12 ((160 * v1) + v6).toNatClampNeg)]) 2 rfl ?_
            refine pu_icmpP (tg := 224) h rfl rfl rfl (fun h => ?_) (fun h => ?_)
            · refine pmSeg_U (pc' := 227) (ls' := [some (.ref 112), some (.int v1), some (.int v2), none, none, some (.int v5), some (.int (v6 + 1)), some (.int (σ 12 ((160 * v1) + v6).toNatClampNeg)), some (.int (σ 13 ((160 * v1) + v6).toNatClampNeg)), none]) (st' := [.int 1, .int (σ 12 ((160 * v1) + v6).toNatClampNeg)]) 2 rfl ?_
              refine pu_icmpP (tg := 236) h rfl rfl rfl (fun h => ?_) (fun h => ?_)
              · refine pmSeg_U (pc' := 236) (ls' := [some (.ref 112), some (.int v1), some (.int v2), none, none, some (.int v5), some (.int (v6 + 1)), some (.int (σ 12 ((160 * v1) + v6).toNatClampNeg)), some (.int (σ 13 ((160 * v1) + v6).toNatClampNeg)), none]) (st' := []) 0 rfl ?_
                exact L_Mo_work_b236 d ih h
              · refine pmSeg_U (pc' := 233) (ls' := [some (.ref 112), some (.int v1), some (.int v2), none, none, some (.int v5), some (.int (v6 + 1)), some (.int (σ 12 ((160 * v1) + v6).toNatClampNeg)), some (.int (σ 13 ((160 * v1) + v6).toNatClampNeg)), none]) (st' := [.int 2, .int (σ 12 ((160 * v1) + v6).toNatClampNeg)]) 2 rfl ?_
                refine pu_icmpP (tg := 307) h rfl rfl rfl (fun h => ?_) (fun h => ?_)
                · refine pmSeg_U (pc' := 311) (ls' := [some (.ref 112), some (.int v1), some (.int v2), none, none, some (.int v5), some (.int (v6 + 1)), some (.int (σ 12 ((160 * v1) + v6).toNatClampNeg)), some (.int (σ 13 ((160 * v1) + v6).toNatClampNeg)), none]) (st' := [.int 33, .int (σ 12 ((160 * v1) + v6).toNatClampNeg)]) 2 rfl ?_
                  refine pu_icmpP (tg := 337) h rfl rfl rfl (fun h => ?_) (fun h => ?_)
                  · refine pmSeg_U (pc' := 339) (ls' := [some (.ref 112), some (.int v1), some (.int v2), none, none, some (.int v5), some (.int (v6 + 1)), some (.int (σ 12 ((160 * v1) + v6).toNatClampNeg)), some (.int (σ 13 ((160 * v1) + v6).toNatClampNeg)), none]) (st' := [.int (σ 12 ((160 * v1) + v6).toNatClampNeg)]) 1 rfl ?_
                    refine pmU_C (av := [.int (σ 12 ((160 * v1) + v6).toNatClampNeg)]) (rest := []) rfl rfl rfl rfl rfl (L_Mo_isSign (d + 1)) ?_
                    refine pmSeg_U (pc' := 342) (ls' := [some (.ref 112), some (.int v1), some (.int v2), none, none, some (.int v5), some (.int (v6 + 1)), some (.int (σ 12 ((160 * v1) + v6).toNatClampNeg)), some (.int (σ 13 ((160 * v1) + v6).toNatClampNeg)), none]) (st' := [.int (Mo_isSign (σ 12 ((160 * v1) + v6).toNatClampNeg))]) 0 rfl ?_
                    refine pu_ifP (tg := 381) h rfl rfl rfl (fun h => ?_) (fun h => ?_)
                    · refine pmSeg_U (pc' := 387) (ls' := [some (.ref 112), some (.int v1), some (.int v2), none, none, some (.int v5), some (.int (v6 + 1)), some (.int (σ 12 ((160 * v1) + v6).toNatClampNeg)), some (.int (σ 13 ((160 * v1) + v6).toNatClampNeg)), none]) (st' := [.int v2, .int (σ 13 ((160 * v1) + v6).toNatClampNeg), .int (σ 12 ((160 * v1) + v6).toNatClampNeg), .ref 112]) 4 rfl ?_
                      obtain ⟨q387, hq387, h⟩ := bd_in h
                      refine pmU_C (av := [.ref 112, .int (σ 12 ((160 * v1) + v6).toNatClampNeg), .int (σ 13 ((160 * v1) + v6).toNatClampNeg), .int v2]) (rest := []) rfl rfl rfl rfl rfl (L_Mo_valueOf (d + 0) hq387) ?_
                      refine pmSeg_U (pc' := 394) (ls' := [some (.ref 112), some (.int v1), some (.int v2), none, none, some (.int v5), some (.int (v6 + 1)), some (.int (σ 12 ((160 * v1) + v6).toNatClampNeg)), some (.int (σ 13 ((160 * v1) + v6).toNatClampNeg)), some (.int q387)]) (st' := [.int q387]) 2 rfl ?_
                      refine pu_ifP (tg := 399) h rfl rfl rfl (fun h => ?_) (fun h => ?_)
                      · obtain ⟨g4, h⟩ := gd_in h
                        refine pmSeg_U (pc' := 407) (ls' := [some (.ref 112), some (.int v1), some (.int v2), none, none, some (.int v5), some (.int (v6 + 1)), some (.int (σ 12 ((160 * v1) + v6).toNatClampNeg)), some (.int (σ 13 ((160 * v1) + v6).toNatClampNeg)), some (.int q387)]) (st' := [.int q387, .int v5, .ref 153]) 4 rfl ?_
                        refine pu_iast rfl rfl g4 (shp_pM (c := 41) rfl) ?_
                        refine pmSeg_U (pc' := 88) (ls' := [some (.ref 112), some (.int v1), some (.int v2), none, none, some (.int (v5 + 1)), some (.int (v6 + 1)), some (.int (σ 12 ((160 * v1) + v6).toNatClampNeg)), some (.int (σ 13 ((160 * v1) + v6).toNatClampNeg)), some (.int q387)]) (st' := []) 2 rfl ?_
                        refine pmU_le (a := [some (.ref 112), some (.int v1), some (.int v2), none, none, some (.int (v5 + 1)), some (.int (v6 + 1)), none, none, none]) (le_s (le_s (le_s (le_s (le_s (le_s (le_s (le_v rfl (le_v rfl (le_v rfl le_nil)))))))))) ?_
                        exact ih h
                      · refine pmSeg_U (pc' := 398) (ls' := [some (.ref 112), some (.int v1), some (.int v2), none, none, some (.int v5), some (.int (v6 + 1)), some (.int (σ 12 ((160 * v1) + v6).toNatClampNeg)), some (.int (σ 13 ((160 * v1) + v6).toNatClampNeg)), some (.int q387)]) (st' := [.int (-1)]) 1 rfl ?_
                        cases h
                        exact pmU_T rfl rfl rfl rfl rfl rfl
                    · obtain ⟨g5, h⟩ := gd_in h
                      refine pmSeg_U (pc' := 366) (ls' := [some (.ref 112), some (.int v1), some (.int v2), none, none, some (.int (v5 + (-1))), some (.int (v6 + 1)), some (.int (σ 12 ((160 * v1) + v6).toNatClampNeg)), some (.int (σ 13 ((160 * v1) + v6).toNatClampNeg)), none]) (st' := [.int ((v5 + (-1)) - 1), .ref 153, .int (σ 12 ((160 * v1) + v6).toNatClampNeg), .int ((v5 + (-1)) - 1), .ref 153]) 12 rfl ?_
                      refine pu_iald rfl rfl g5 (shp_iM (c := 41) rfl) ?_
                      obtain ⟨g6, h⟩ := gd_in h
                      refine pmSeg_U (pc' := 373) (ls' := [some (.ref 112), some (.int v1), some (.int v2), none, none, some (.int (v5 + (-1))), some (.int (v6 + 1)), some (.int (σ 12 ((160 * v1) + v6).toNatClampNeg)), some (.int (σ 13 ((160 * v1) + v6).toNatClampNeg)), none]) (st' := [.int (v5 + (-1)), .ref 153, .int (σ 41 ((v5 + (-1)) - 1).toNatClampNeg), .int (σ 12 ((160 * v1) + v6).toNatClampNeg), .int ((v5 + (-1)) - 1), .ref 153]) 3 rfl ?_
                      refine pu_iald rfl rfl g6 (shp_iM (c := 41) rfl) ?_
                      refine pmSeg_U (pc' := 374) (ls' := [some (.ref 112), some (.int v1), some (.int v2), none, none, some (.int (v5 + (-1))), some (.int (v6 + 1)), some (.int (σ 12 ((160 * v1) + v6).toNatClampNeg)), some (.int (σ 13 ((160 * v1) + v6).toNatClampNeg)), none]) (st' := [.int (σ 41 (v5 + (-1)).toNatClampNeg), .int (σ 41 ((v5 + (-1)) - 1).toNatClampNeg), .int (σ 12 ((160 * v1) + v6).toNatClampNeg), .int ((v5 + (-1)) - 1), .ref 153]) 0 rfl ?_
                      refine pmU_C (av := [.int (σ 12 ((160 * v1) + v6).toNatClampNeg), .int (σ 41 ((v5 + (-1)) - 1).toNatClampNeg), .int (σ 41 (v5 + (-1)).toNatClampNeg)]) (rest := [.int ((v5 + (-1)) - 1), .ref 153]) rfl rfl rfl rfl rfl (L_Mo_reckon (d + 1)) ?_
                      obtain ⟨g7, h⟩ := gd_in h
                      refine pmSeg_U (pc' := 377) (ls' := [some (.ref 112), some (.int v1), some (.int v2), none, none, some (.int (v5 + (-1))), some (.int (v6 + 1)), some (.int (σ 12 ((160 * v1) + v6).toNatClampNeg)), some (.int (σ 13 ((160 * v1) + v6).toNatClampNeg)), none]) (st' := [.int (Mo_reckon (σ 12 ((160 * v1) + v6).toNatClampNeg) (σ 41 ((v5 + (-1)) - 1).toNatClampNeg) (σ 41 (v5 + (-1)).toNatClampNeg)), .int ((v5 + (-1)) - 1), .ref 153]) 0 rfl ?_
                      refine pu_iast rfl rfl g7 (shp_pM (c := 41) rfl) ?_
                      refine pmSeg_U (pc' := 88) (ls' := [some (.ref 112), some (.int v1), some (.int v2), none, none, some (.int (v5 + (-1))), some (.int (v6 + 1)), some (.int (σ 12 ((160 * v1) + v6).toNatClampNeg)), some (.int (σ 13 ((160 * v1) + v6).toNatClampNeg)), none]) (st' := []) 2 rfl ?_
                      refine pmU_le (a := [some (.ref 112), some (.int v1), some (.int v2), none, none, some (.int (v5 + (-1))), some (.int (v6 + 1)), none, none, none]) (le_s (le_s (le_s (le_s (le_s (le_s (le_s (le_v rfl (le_v rfl (le_s le_nil)))))))))) ?_
                      exact ih h
                  · obtain ⟨g8, h⟩ := gd_in h
                    refine pmSeg_U (pc' := 331) (ls' := [some (.ref 112), some (.int v1), some (.int v2), none, none, some (.int v5), some (.int (v6 + 1)), some (.int (σ 12 ((160 * v1) + v6).toNatClampNeg)), some (.int (σ 13 ((160 * v1) + v6).toNatClampNeg)), none]) (st' := [.int (v5 - 1), .ref 153, .int 1, .int (v5 - 1), .ref 153]) 11 rfl ?_
                    refine pu_iald rfl rfl g8 (shp_iM (c := 41) rfl) ?_
                    obtain ⟨g9, h⟩ := gd_in h
                    refine pmSeg_U (pc' := 333) (ls' := [some (.ref 112), some (.int v1), some (.int v2), none, none, some (.int v5), some (.int (v6 + 1)), some (.int (σ 12 ((160 * v1) + v6).toNatClampNeg)), some (.int (σ 13 ((160 * v1) + v6).toNatClampNeg)), none]) (st' := [.int (1 - (σ 41 (v5 - 1).toNatClampNeg)), .int (v5 - 1), .ref 153]) 1 rfl ?_
                    refine pu_iast rfl rfl g9 (shp_pM (c := 41) rfl) ?_
                    refine pmSeg_U (pc' := 88) (ls' := [some (.ref 112), some (.int v1), some (.int v2), none, none, some (.int v5), some (.int (v6 + 1)), some (.int (σ 12 ((160 * v1) + v6).toNatClampNeg)), some (.int (σ 13 ((160 * v1) + v6).toNatClampNeg)), none]) (st' := []) 2 rfl ?_
                    refine pmU_le (a := [some (.ref 112), some (.int v1), some (.int v2), none, none, some (.int v5), some (.int (v6 + 1)), none, none, none]) (le_s (le_s (le_s (le_s (le_s (le_s (le_s (le_v rfl (le_v rfl (le_s le_nil)))))))))) ?_
                    exact ih h
                · refine pmSeg_U (pc' := 236) (ls' := [some (.ref 112), some (.int v1), some (.int v2), none, none, some (.int v5), some (.int (v6 + 1)), some (.int (σ 12 ((160 * v1) + v6).toNatClampNeg)), some (.int (σ 13 ((160 * v1) + v6).toNatClampNeg)), none]) (st' := []) 0 rfl ?_
                  exact L_Mo_work_b236 d ih h
            · obtain ⟨g10, h⟩ := gd_in h
              refine pmSeg_U (pc' := 208) (ls' := [some (.ref 112), some (.int v1), some (.int v2), none, none, some (.int (v5 + (-1))), some (.int (v6 + 1)), some (.int (σ 12 ((160 * v1) + v6).toNatClampNeg)), some (.int (σ 13 ((160 * v1) + v6).toNatClampNeg)), none]) (st' := [.int (v5 + (-1)), .ref 153]) 4 rfl ?_
              refine pu_iald rfl rfl g10 (shp_iM (c := 41) rfl) ?_
              refine pmSeg_U (pc' := 209) (ls' := [some (.ref 112), some (.int v1), some (.int v2), none, none, some (.int (v5 + (-1))), some (.int (v6 + 1)), some (.int (σ 12 ((160 * v1) + v6).toNatClampNeg)), some (.int (σ 13 ((160 * v1) + v6).toNatClampNeg)), none]) (st' := [.int (σ 41 (v5 + (-1)).toNatClampNeg)]) 0 rfl ?_
              refine pu_ifP (tg := 217) h rfl rfl rfl (fun h => ?_) (fun h => ?_)
              · refine pmSeg_U (pc' := 88) (ls' := [some (.ref 112), some (.int v1), some (.int v2), none, none, some (.int (v5 + (-1))), some (.int (v6 + 1)), some (.int (σ 12 ((160 * v1) + v6).toNatClampNeg)), some (.int (σ 13 ((160 * v1) + v6).toNatClampNeg)), none]) (st' := []) 4 rfl ?_
                refine pmU_le (a := [some (.ref 112), some (.int v1), some (.int v2), none, none, some (.int (v5 + (-1))), some (.int (v6 + 1)), none, none, none]) (le_s (le_s (le_s (le_s (le_s (le_s (le_s (le_v rfl (le_v rfl (le_s le_nil)))))))))) ?_
                exact ih h
              · refine pmSeg_U (pc' := 88) (ls' := [some (.ref 112), some (.int v1), some (.int v2), none, none, some (.int (v5 + (-1))), some (.int (σ 13 ((160 * v1) + v6).toNatClampNeg)), some (.int (σ 12 ((160 * v1) + v6).toNatClampNeg)), some (.int (σ 13 ((160 * v1) + v6).toNatClampNeg)), none]) (st' := []) 5 rfl ?_
                refine pmU_le (a := [some (.ref 112), some (.int v1), some (.int v2), none, none, some (.int (v5 + (-1))), some (.int (σ 13 ((160 * v1) + v6).toNatClampNeg)), none, none, none]) (le_s (le_s (le_s (le_s (le_s (le_s (le_s (le_v rfl (le_v rfl (le_s le_nil)))))))))) ?_
                exact ih h
          · refine pmSeg_U (pc' := 88) (ls' := [some (.ref 112), some (.int v1), some (.int v2), none, none, some (.int v5), some (.int (σ 13 ((160 * v1) + v6).toNatClampNeg)), some (.int (σ 12 ((160 * v1) + v6).toNatClampNeg)), some (.int (σ 13 ((160 * v1) + v6).toNatClampNeg)), none]) (st' := []) 4 rfl ?_
            refine pmU_le (a := [some (.ref 112), some (.int v1), some (.int v2), none, none, some (.int v5), some (.int (σ 13 ((160 * v1) + v6).toNatClampNeg)), none, none, none]) (le_s (le_s (le_s (le_s (le_s (le_s (le_s (le_v rfl (le_v rfl (le_s le_nil)))))))))) ?_
            exact ih h
        · refine pmSeg_U (pc' := 145) (ls' := [some (.ref 112), some (.int v1), some (.int v2), none, none, some (.int v5), some (.int (v6 + 1)), some (.int (σ 12 ((160 * v1) + v6).toNatClampNeg)), some (.int (σ 13 ((160 * v1) + v6).toNatClampNeg)), none]) (st' := []) 0 rfl ?_
          refine pmU_le (a := [some (.ref 112), some (.int v1), some (.int v2), none, none, some (.int v5), some (.int (v6 + 1)), some (.int (σ 12 ((160 * v1) + v6).toNatClampNeg)), none, none]) (le_s (le_s (le_s (le_s (le_s (le_s (le_s (le_s (le_v rfl (le_s le_nil)))))))))) ?_
          exact L_Mo_work_b145 d ih h
theorem L_Mo_work_b47 {S : pmS} (d : Nat)    {v1 : Int32} {v2 : Int32} {s0 : Int32} {σ τ : Mem} {z : Int32 × Mem}  (h : Mo_work_b47 v1 v2 s0 σ = some z) : pmU S (d + 2) 136 47 [some (.ref 112), some (.int v1), some (.int v2), none, none, none, none, none, none, none] [.int s0] (shH τ σ) (some (.int z.1)) (shH τ z.2) := by
  unfold Mo_work_b47 at h
  obtain ⟨g1, h⟩ := gd_in h
  refine pmSeg_U (pc' := 57) (ls' := [some (.ref 112), some (.int v1), some (.int v2), some (.int s0), none, none, none, none, none, none]) (st' := [.int ((3 * v1) + 1), .ref 120]) 8 rfl ?_
  refine pu_iald rfl rfl g1 (shp_iM (c := 8) rfl) ?_
  refine pmSeg_U (pc' := 61) (ls' := [some (.ref 112), some (.int v1), some (.int v2), some (.int s0), some (.int (σ 8 ((3 * v1) + 1).toNatClampNeg)), none, none, none, none, none]) (st' := [.int s0]) 2 rfl ?_
  refine pu_ifP (tg := 80) h rfl rfl rfl (fun h => ?_) (fun h => ?_)
  · refine pmSeg_U (pc' := 81) (ls' := [some (.ref 112), some (.int v1), some (.int v2), some (.int s0), some (.int (σ 8 ((3 * v1) + 1).toNatClampNeg)), none, none, none, none, none]) (st' := [.int 0]) 1 rfl ?_
    cases h
    exact pmU_T rfl rfl rfl rfl rfl rfl
  · refine pmSeg_U (pc' := 66) (ls' := [some (.ref 112), some (.int v1), some (.int v2), some (.int s0), some (.int (σ 8 ((3 * v1) + 1).toNatClampNeg)), none, none, none, none, none]) (st' := [.int (σ 8 ((3 * v1) + 1).toNatClampNeg)]) 1 rfl ?_
    refine pu_ifP (tg := 82) h rfl rfl rfl (fun h => ?_) (fun h => ?_)
    · refine pmSeg_U (pc' := 88) (ls' := [some (.ref 112), some (.int v1), some (.int v2), some (.int s0), some (.int (σ 8 ((3 * v1) + 1).toNatClampNeg)), some (.int 0), some (.int 0), none, none, none]) (st' := []) 4 rfl ?_
      refine pmU_le (a := [some (.ref 112), some (.int v1), some (.int v2), none, none, some (.int 0), some (.int 0), none, none, none]) (le_s (le_s (le_s (le_v rfl (le_v rfl (le_s (le_s (le_s (le_s (le_s le_nil)))))))))) ?_
      exact L_Mo_work_b88 d FU h
    · refine pmSeg_U (pc' := 77) (ls' := [some (.ref 112), some (.int v1), some (.int v2), some (.int s0), some (.int (σ 8 ((3 * v1) + 1).toNatClampNeg)), none, none, none, none, none]) (st' := [.int ((v2 >>> (7 &&& 31)) &&& 3), .int (σ 8 ((3 * v1) + 1).toNatClampNeg)]) 6 rfl ?_
      refine pu_icmpP (tg := 82) h rfl rfl rfl (fun h => ?_) (fun h => ?_)
      · refine pmSeg_U (pc' := 88) (ls' := [some (.ref 112), some (.int v1), some (.int v2), some (.int s0), some (.int (σ 8 ((3 * v1) + 1).toNatClampNeg)), some (.int 0), some (.int 0), none, none, none]) (st' := []) 4 rfl ?_
        refine pmU_le (a := [some (.ref 112), some (.int v1), some (.int v2), none, none, some (.int 0), some (.int 0), none, none, none]) (le_s (le_s (le_s (le_v rfl (le_v rfl (le_s (le_s (le_s (le_s (le_s le_nil)))))))))) ?_
        exact L_Mo_work_b88 d FU h
      · refine pmSeg_U (pc' := 81) (ls' := [some (.ref 112), some (.int v1), some (.int v2), some (.int s0), some (.int (σ 8 ((3 * v1) + 1).toNatClampNeg)), none, none, none, none, none]) (st' := [.int 0]) 1 rfl ?_
        cases h
        exact pmU_T rfl rfl rfl rfl rfl rfl
