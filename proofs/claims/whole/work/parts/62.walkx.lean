theorem L_Re_lookAt {S : pmS} (d : Nat) {v1 : Int32} {v2 : Int32} {v3 : Int32} {σ τ : Mem} {z : Mem}  (h : Re_lookAt v1 v2 v3 σ = some z) : pmX S (d + 1) 59 [.ref 15, .int v1, .int v2, .int v3] (shH σ τ) none (shH z τ) := by
  unfold Re_lookAt at h
  refine pmU_X rfl ?_
  refine pmSeg_U (pc' := 2) (ls' := [some (.ref 15), some (.int v1), some (.int v2), some (.int v3)]) (st' := [.int v2, .int v1]) 2 rfl ?_
  refine pu_icmpP (tg := 21) h rfl rfl rfl (fun h => ?_) (fun h => ?_)
  · refine pmSeg_U (pc' := 21) (ls' := [some (.ref 15), some (.int v1), some (.int v2), some (.int v3)]) (st' := []) 0 rfl ?_
    cases h
    exact pmU_T rfl rfl rfl rfl rfl rfl
  · refine pmSeg_U (pc' := 9) (ls' := [some (.ref 15), some (.int v1), some (.int v2), some (.int v3)]) (st' := [.int (σ 15 4)]) 2 rfl ?_
    refine pu_ifP (tg := 21) h rfl rfl rfl (fun h => ?_) (fun h => ?_)
    · refine pmSeg_U (pc' := 21) (ls' := [some (.ref 15), some (.int v1), some (.int v2), some (.int v3)]) (st' := []) 0 rfl ?_
      cases h
      exact pmU_T rfl rfl rfl rfl rfl rfl
    · refine pmSeg_U (pc' := 18) (ls' := [some (.ref 15), some (.int v1), some (.int v2), some (.int v3)]) (st' := [.int ((-1000) - v3), .ref 15]) 4 rfl ?_
      refine pu_put rfl rfl rfl rfl rfl (shp_pX rfl (by decide)) ?_
      refine pmSeg_U (pc' := 21) (ls' := [some (.ref 15), some (.int v1), some (.int v2), some (.int v3)]) (st' := []) 0 rfl ?_
      cases h
      exact pmU_T rfl rfl rfl rfl rfl rfl
theorem L_Re_lookAtEnded {S : pmS} (d : Nat) {v1 : Int32} {v2 : Int32} {v3 : Int32} {σ τ : Mem} {z : Mem}  (h : Re_lookAtEnded v1 v2 v3 σ = some z) : pmX S (d + 2) 62 [.ref 15, .int v1, .int v2, .int v3] (shH σ τ) none (shH z τ) := by
  unfold Re_lookAtEnded at h
  refine pmU_X rfl ?_
  refine pmSeg_U (pc' := 8) (ls' := [some (.ref 15), some (.int v1), some (.int v2), some (.int v3)]) (st' := [.int (σ 15 1), .int (σ 15 3)]) 4 rfl ?_
  refine pu_icmpP (tg := 18) h rfl rfl rfl (fun h => ?_) (fun h => ?_)
  · refine pmSeg_U (pc' := 18) (ls' := [some (.ref 15), some (.int v1), some (.int v2), some (.int v3)]) (st' := []) 0 rfl ?_
    cases h
    exact pmU_T rfl rfl rfl rfl rfl rfl
  · refine pmSeg_U (pc' := 15) (ls' := [some (.ref 15), some (.int v1), some (.int v2), some (.int v3)]) (st' := [.int v3, .int v2, .int v1, .ref 15]) 4 rfl ?_
    obtain ⟨q15, hq15, h⟩ := bd_in h
    refine pmU_C (av := [.ref 15, .int v1, .int v2, .int v3]) (rest := []) rfl rfl rfl rfl rfl (L_Re_lookAt (d + 0) hq15) ?_
    refine pmSeg_U (pc' := 18) (ls' := [some (.ref 15), some (.int v1), some (.int v2), some (.int v3)]) (st' := []) 0 rfl ?_
    cases h
    exact pmU_T rfl rfl rfl rfl rfl rfl
theorem L_Re_constantOf' {S : pmS} (d : Nat) {v0 : Int32} {h0 : pmH} {z : Int32} (h : Re_constantOf v0 = z) : pmX S (d + 1) 55 [.int v0] h0 (some (.int z)) h0 := by
  unfold Re_constantOf at h
  refine pmU_X rfl ?_
  refine pmSeg_U (pc' := 3) (ls' := [some (.int v0)]) (st' := [.int 84, .int v0]) 2 rfl ?_
  refine pu_icmpP (tg := 8) h rfl rfl rfl (fun h => ?_) (fun h => ?_)
  · refine pmSeg_U (pc' := 11) (ls' := [some (.int v0)]) (st' := [.int 48, .int v0]) 2 rfl ?_
    refine pu_icmpP (tg := 27) h rfl rfl rfl (fun h => ?_) (fun h => ?_)
    · refine pmSeg_U (pc' := 28) (ls' := [some (.int v0)]) (st' := [.int 0]) 1 rfl ?_
      cases h
      exact pmU_T rfl rfl rfl rfl rfl rfl
    · refine pmSeg_U (pc' := 17) (ls' := [some (.int v0)]) (st' := [.int 57, .int v0]) 2 rfl ?_
      refine pu_icmpP (tg := 27) h rfl rfl rfl (fun h => ?_) (fun h => ?_)
      · refine pmSeg_U (pc' := 28) (ls' := [some (.int v0)]) (st' := [.int 0]) 1 rfl ?_
        cases h
        exact pmU_T rfl rfl rfl rfl rfl rfl
      · refine pmSeg_U (pc' := 28) (ls' := [some (.int v0)]) (st' := [.int (v0 - 48)]) 4 rfl ?_
        cases h
        exact pmU_T rfl rfl rfl rfl rfl rfl
  · refine pmSeg_U (pc' := 7) (ls' := [some (.int v0)]) (st' := [.int 1]) 1 rfl ?_
    cases h
    exact pmU_T rfl rfl rfl rfl rfl rfl
theorem L_Re_constantOf {S : pmS} (d : Nat) {v0 : Int32} {h0 : pmH} : pmX S (d + 1) 55 [.int v0] h0 (some (.int (Re_constantOf v0))) h0 := L_Re_constantOf' d rfl
theorem L_Re_digit {S : pmS} (d : Nat)  {σ τ : Mem} {z : Int32 × Mem}  (h : Re_digit σ = some z) : pmX S (d + 2) 45 [.ref 15] (shH σ τ) (some (.int z.1)) (shH z.2 τ) := by
  unfold Re_digit at h
  refine pmU_X rfl ?_
  refine pmSeg_U (pc' := 1) (ls' := [some (.ref 15), none]) (st' := [.ref 15]) 1 rfl ?_
  obtain ⟨q1, hq1, h⟩ := bd_in h
  refine pmU_C (av := [.ref 15]) (rest := []) rfl rfl rfl rfl rfl (L_Re_next (d + 0) hq1) ?_
  refine pmSeg_U (pc' := 9) (ls' := [some (.ref 15), some (.int (q1 - 48))]) (st' := [.int (q1 - 48)]) 4 rfl ?_
  refine pmU_C (av := [.int (q1 - 48)]) (rest := []) rfl rfl rfl rfl rfl (L_Ps_isOne (d + 0)) ?_
  refine pmSeg_U (pc' := 12) (ls' := [some (.ref 15), some (.int (q1 - 48))]) (st' := [.int (Ps_isOne (q1 - 48))]) 0 rfl ?_
  refine pu_ifP (tg := 21) h rfl rfl rfl (fun h => ?_) (fun h => ?_)
  · refine pmSeg_U (pc' := 28) (ls' := [some (.ref 15), some (.int (q1 - 48))]) (st' := [.int ((σ 15 3) + 1), .ref 15]) 5 rfl ?_
    refine pu_put rfl rfl rfl rfl rfl (shp_pX rfl (by decide)) ?_
    refine pmSeg_U (pc' := 32) (ls' := [some (.ref 15), some (.int (q1 - 48))]) (st' := [.int (q1 - 48)]) 1 rfl ?_
    cases h
    exact pmU_T rfl rfl rfl rfl rfl rfl
  · refine pmSeg_U (pc' := 16) (ls' := [some (.ref 15), some (.int (q1 - 48))]) (st' := [.ref 15]) 1 rfl ?_
    obtain ⟨q16, hq16, h⟩ := bd_in h
    refine pmU_C (av := [.ref 15]) (rest := []) rfl rfl rfl rfl rfl (L_Re_refuseByte (d + 0) hq16) ?_
    refine pmSeg_U (pc' := 20) (ls' := [some (.ref 15), some (.int (q1 - 48))]) (st' := [.int 0]) 1 rfl ?_
    cases h
    exact pmU_T rfl rfl rfl rfl rfl rfl
theorem L_Re_isNumbered' {S : pmS} (d : Nat) {v0 : Int32} {h0 : pmH} {z : Int32} (h : Re_isNumbered v0 = z) : pmX S (d + 1) 54 [.int v0] h0 (some (.int z)) h0 := by
  unfold Re_isNumbered at h
  refine pmU_X rfl ?_
  refine pmSeg_U (pc' := 3) (ls' := [some (.int v0)]) (st' := [.int 103, .int v0]) 2 rfl ?_
  refine pu_icmpP (tg := 24) h rfl rfl rfl (fun h => ?_) (fun h => ?_)
  · refine pmSeg_U (pc' := 29) (ls' := [some (.int v0)]) (st' := [.int 1]) 2 rfl ?_
    cases h
    exact pmU_T rfl rfl rfl rfl rfl rfl
  · refine pmSeg_U (pc' := 9) (ls' := [some (.int v0)]) (st' := [.int 102, .int v0]) 2 rfl ?_
    refine pu_icmpP (tg := 24) h rfl rfl rfl (fun h => ?_) (fun h => ?_)
    · refine pmSeg_U (pc' := 29) (ls' := [some (.int v0)]) (st' := [.int 1]) 2 rfl ?_
      cases h
      exact pmU_T rfl rfl rfl rfl rfl rfl
    · refine pmSeg_U (pc' := 15) (ls' := [some (.int v0)]) (st' := [.int 104, .int v0]) 2 rfl ?_
      refine pu_icmpP (tg := 24) h rfl rfl rfl (fun h => ?_) (fun h => ?_)
      · refine pmSeg_U (pc' := 29) (ls' := [some (.int v0)]) (st' := [.int 1]) 2 rfl ?_
        cases h
        exact pmU_T rfl rfl rfl rfl rfl rfl
      · refine pmSeg_U (pc' := 21) (ls' := [some (.int v0)]) (st' := [.int 109, .int v0]) 2 rfl ?_
        refine pu_icmpP (tg := 28) h rfl rfl rfl (fun h => ?_) (fun h => ?_)
        · refine pmSeg_U (pc' := 29) (ls' := [some (.int v0)]) (st' := [.int 0]) 1 rfl ?_
          cases h
          exact pmU_T rfl rfl rfl rfl rfl rfl
        · refine pmSeg_U (pc' := 29) (ls' := [some (.int v0)]) (st' := [.int 1]) 2 rfl ?_
          cases h
          exact pmU_T rfl rfl rfl rfl rfl rfl
theorem L_Re_isNumbered {S : pmS} (d : Nat) {v0 : Int32} {h0 : pmH} : pmX S (d + 1) 54 [.int v0] h0 (some (.int (Re_isNumbered v0))) h0 := L_Re_isNumbered' d rfl
theorem bz_Re_isNumbered {v0 : Int32} : (Re_isNumbered v0 == 0 || Re_isNumbered v0 == 1) = true := by
  unfold Re_isNumbered
  first | rfl | exact bz_Ps_hasBit | (split <;> first | rfl | exact bz_Ps_hasBit | (split <;> first | rfl | exact bz_Ps_hasBit | (split <;> first | rfl | exact bz_Ps_hasBit | (split <;> first | rfl | exact bz_Ps_hasBit | (split <;> first | rfl | exact bz_Ps_hasBit | (split <;> first | rfl | exact bz_Ps_hasBit | (split <;> first | rfl | exact bz_Ps_hasBit | (split <;> first | rfl | exact bz_Ps_hasBit))))))))
theorem L_Re_typeOf' {S : pmS} (d : Nat) {v0 : Int32} {h0 : pmH} {z : Int32} (h : Re_typeOf v0 = z) : pmX S (d + 1) 53 [.int v0] h0 (some (.int z)) h0 := by
  unfold Re_typeOf at h
  refine pmU_X rfl ?_
  refine pmSeg_U (pc' := 1) (ls' := [some (.int v0)]) (st' := [.int v0]) 1 rfl ?_
  refine br_sw h (fun e1 h => ?_) (fun e1 h => ?_)
  · rcases e1 with e1 | e1 | e1 | e1 | e1 | e1 | e1 | e1
    · refine pu_sw (v := 70) (tg := 184) e1 rfl rfl rfl ?_
      refine pmSeg_U (pc' := 185) (ls' := [some (.int v0)]) (st' := [.int 1]) 1 rfl ?_
      cases h
      exact pmU_T rfl rfl rfl rfl rfl rfl
    · refine pu_sw (v := 84) (tg := 184) e1 rfl rfl rfl ?_
      refine pmSeg_U (pc' := 185) (ls' := [some (.int v0)]) (st' := [.int 1]) 1 rfl ?_
      cases h
      exact pmU_T rfl rfl rfl rfl rfl rfl
    · refine pu_sw (v := 98) (tg := 184) e1 rfl rfl rfl ?_
      refine pmSeg_U (pc' := 185) (ls' := [some (.int v0)]) (st' := [.int 1]) 1 rfl ?_
      cases h
      exact pmU_T rfl rfl rfl rfl rfl rfl
    · refine pu_sw (v := 99) (tg := 184) e1 rfl rfl rfl ?_
      refine pmSeg_U (pc' := 185) (ls' := [some (.int v0)]) (st' := [.int 1]) 1 rfl ?_
      cases h
      exact pmU_T rfl rfl rfl rfl rfl rfl
    · refine pu_sw (v := 102) (tg := 184) e1 rfl rfl rfl ?_
      refine pmSeg_U (pc' := 185) (ls' := [some (.int v0)]) (st' := [.int 1]) 1 rfl ?_
      cases h
      exact pmU_T rfl rfl rfl rfl rfl rfl
    · refine pu_sw (v := 103) (tg := 184) e1 rfl rfl rfl ?_
      refine pmSeg_U (pc' := 185) (ls' := [some (.int v0)]) (st' := [.int 1]) 1 rfl ?_
      cases h
      exact pmU_T rfl rfl rfl rfl rfl rfl
    · refine pu_sw (v := 104) (tg := 184) e1 rfl rfl rfl ?_
      refine pmSeg_U (pc' := 185) (ls' := [some (.int v0)]) (st' := [.int 1]) 1 rfl ?_
      cases h
      exact pmU_T rfl rfl rfl rfl rfl rfl
    · refine pu_sw (v := 111) (tg := 184) e1 rfl rfl rfl ?_
      refine pmSeg_U (pc' := 185) (ls' := [some (.int v0)]) (st' := [.int 1]) 1 rfl ?_
      cases h
      exact pmU_T rfl rfl rfl rfl rfl rfl
  refine br_sw h (fun e2 h => ?_) (fun e2 h => ?_)
  · rcases e2 with e2 | e2 | e2
    · refine pu_sw (v := 108) (tg := 186) e2 rfl rfl rfl ?_
      refine pmSeg_U (pc' := 187) (ls' := [some (.int v0)]) (st' := [.int 0]) 1 rfl ?_
      cases h
      exact pmU_T rfl rfl rfl rfl rfl rfl
    · refine pu_sw (v := 109) (tg := 186) e2 rfl rfl rfl ?_
      refine pmSeg_U (pc' := 187) (ls' := [some (.int v0)]) (st' := [.int 0]) 1 rfl ?_
      cases h
      exact pmU_T rfl rfl rfl rfl rfl rfl
    · refine pu_sw (v := 110) (tg := 186) e2 rfl rfl rfl ?_
      refine pmSeg_U (pc' := 187) (ls' := [some (.int v0)]) (st' := [.int 0]) 1 rfl ?_
      cases h
      exact pmU_T rfl rfl rfl rfl rfl rfl
  refine pu_tswD (tg := 188) rfl rfl ⟨Or.inr (lv_neT (fun z => e1 (Or.inl z)) rfl), Or.inl rfl, Or.inl rfl, Or.inl rfl, Or.inl rfl, Or.inl rfl, Or.inl rfl, Or.inl rfl, Or.inl rfl, Or.inl rfl, Or.inl rfl, Or.inl rfl, Or.inl rfl, Or.inl rfl, Or.inr (lv_neT (fun z => e1 (Or.inr (Or.inl z))) rfl), Or.inl rfl, Or.inl rfl, Or.inl rfl, Or.inl rfl, Or.inl rfl, Or.inl rfl, Or.inl rfl, Or.inl rfl, Or.inl rfl, Or.inl rfl, Or.inl rfl, Or.inl rfl, Or.inl rfl, Or.inr (lv_neT (fun z => e1 (Or.inr (Or.inr (Or.inl z)))) rfl), Or.inr (lv_neT (fun z => e1 (Or.inr (Or.inr (Or.inr (Or.inl z))))) rfl), Or.inl rfl, Or.inl rfl, Or.inr (lv_neT (fun z => e1 (Or.inr (Or.inr (Or.inr (Or.inr (Or.inl z)))))) rfl), Or.inr (lv_neT (fun z => e1 (Or.inr (Or.inr (Or.inr (Or.inr (Or.inr (Or.inl z))))))) rfl), Or.inr (lv_neT (fun z => e1 (Or.inr (Or.inr (Or.inr (Or.inr (Or.inr (Or.inr (Or.inl z)))))))) rfl), Or.inl rfl, Or.inl rfl, Or.inl rfl, Or.inr (lv_neT (fun z => e2 (Or.inl z)) rfl), Or.inr (lv_neT (fun z => e2 (Or.inr (Or.inl z))) rfl), Or.inr (lv_neT (fun z => e2 (Or.inr (Or.inr (z)))) rfl), Or.inr (lv_neT (fun z => e1 (Or.inr (Or.inr (Or.inr (Or.inr (Or.inr (Or.inr (Or.inr (z))))))))) rfl), trivial⟩ rfl ?_
  refine pmSeg_U (pc' := 191) (ls' := [some (.int v0)]) (st' := [.int 48, .int v0]) 2 rfl ?_
  refine pu_icmpP (tg := 204) h rfl rfl rfl (fun h => ?_) (fun h => ?_)
  · refine pmSeg_U (pc' := 205) (ls' := [some (.int v0)]) (st' := [.int (-1)]) 1 rfl ?_
    cases h
    exact pmU_T rfl rfl rfl rfl rfl rfl
  · refine pmSeg_U (pc' := 197) (ls' := [some (.int v0)]) (st' := [.int 57, .int v0]) 2 rfl ?_
    refine pu_icmpP (tg := 204) h rfl rfl rfl (fun h => ?_) (fun h => ?_)
    · refine pmSeg_U (pc' := 205) (ls' := [some (.int v0)]) (st' := [.int (-1)]) 1 rfl ?_
      cases h
      exact pmU_T rfl rfl rfl rfl rfl rfl
    · refine pmSeg_U (pc' := 205) (ls' := [some (.int v0)]) (st' := [.int 0]) 2 rfl ?_
      cases h
      exact pmU_T rfl rfl rfl rfl rfl rfl
theorem L_Re_typeOf {S : pmS} (d : Nat) {v0 : Int32} {h0 : pmH} : pmX S (d + 1) 53 [.int v0] h0 (some (.int (Re_typeOf v0))) h0 := L_Re_typeOf' d rfl
theorem L_Re_atom_b29 {S : pmS} (d : Nat)     {σ τ : Mem} {z : Int32 × Mem}  (h : Re_atom_b29 σ = some z) : pmU S (d + 2) 52 29 [some (.ref 15), none, none, none, none] [] (shH σ τ) (some (.int z.1)) (shH z.2 τ) := by
  unfold Re_atom_b29 at h
  refine pmSeg_U (pc' := 30) (ls' := [some (.ref 15), none, none, none, none]) (st' := [.ref 15]) 1 rfl ?_
  obtain ⟨q30, hq30, h⟩ := bd_in h
  refine pmU_C (av := [.ref 15]) (rest := []) rfl rfl rfl rfl rfl (L_Re_refuseByte (d + 1) hq30) ?_
  refine pmSeg_U (pc' := 34) (ls' := [some (.ref 15), none, none, none, none]) (st' := [.int 0]) 1 rfl ?_
  cases h
  exact pmU_T rfl rfl rfl rfl rfl rfl
theorem L_Re_atom_b99 {S : pmS} (d : Nat)    {v1 : Int32} {v2 : Int32} {v3 : Int32} {v4 : Int32} {σ τ : Mem} {z : Int32 × Mem}  (h : Re_atom_b99 v1 v2 v3 v4 σ = some z) : pmU S (d + 2) 52 99 [some (.ref 15), some (.int v1), some (.int v2), some (.int v3), some (.int v4)] [] (shH σ τ) (some (.int z.1)) (shH z.2 τ) := by
  unfold Re_atom_b99 at h
  refine pmSeg_U (pc' := 102) (ls' := [some (.ref 15), some (.int v1), some (.int v2), some (.int v3), some (.int v4)]) (st' := [.int 109, .int v2]) 2 rfl ?_
  refine pu_icmpP (tg := 122) h rfl rfl rfl (fun h => ?_) (fun h => ?_)
  · refine pmSeg_U (pc' := 123) (ls' := [some (.ref 15), some (.int v1), some (.int v2), some (.int v3), some (.int v4)]) (st' := [.int v3]) 1 rfl ?_
    cases h
    exact pmU_T rfl rfl rfl rfl rfl rfl
  · refine pmSeg_U (pc' := 108) (ls' := [some (.ref 15), some (.int v1), some (.int v2), some (.int v3), some (.int v4)]) (st' := [.int v4, .int v1]) 2 rfl ?_
    refine pmU_C (av := [.int v1, .int v4]) (rest := []) rfl rfl rfl rfl rfl (L_Ps_hasBit (d + 1)) ?_
    refine pmSeg_U (pc' := 111) (ls' := [some (.ref 15), some (.int v1), some (.int v2), some (.int v3), some (.int v4)]) (st' := [.int (Ps_hasBit v1 v4)]) 0 rfl ?_
    refine pu_ifP (tg := 122) h rfl rfl rfl (fun h => ?_) (fun h => ?_)
    · refine pmSeg_U (pc' := 123) (ls' := [some (.ref 15), some (.int v1), some (.int v2), some (.int v3), some (.int v4)]) (st' := [.int v3]) 1 rfl ?_
      cases h
      exact pmU_T rfl rfl rfl rfl rfl rfl
    · obtain ⟨g1, h⟩ := gd_in h
      refine pmSeg_U (pc' := 115) (ls' := [some (.ref 15), some (.int v1), some (.int v2), some (.int v3), some (.int v4)]) (st' := [.ref 15]) 1 rfl ?_
      refine pu_get rfl rfl rfl (shp_mX rfl (by decide) (po_nn g1)) ?_
      refine pmSeg_U (pc' := 119) (ls' := [some (.ref 15), some (.int v1), some (.int v2), some (.int v3), some (.int v4)]) (st' := [.int 0, .ref (ix (σ 15 2))]) 1 rfl ?_
      refine pu_put rfl rfl (Po_k g1) rfl rfl (shp_pX (Po_f1 g1) (Po_lt g1)) ?_
      refine pmSeg_U (pc' := 123) (ls' := [some (.ref 15), some (.int v1), some (.int v2), some (.int v3), some (.int v4)]) (st' := [.int v3]) 1 rfl ?_
      cases h
      exact pmU_T rfl rfl rfl rfl rfl rfl
theorem L_Re_atom_b73 {S : pmS} (d : Nat)    {v1 : Int32} {v2 : Int32} {v3 : Int32} {s0 : Int32} {σ τ : Mem} {z : Int32 × Mem}  (h : Re_atom_b73 v1 v2 v3 s0 σ = some z) : pmU S (d + 2) 52 73 [some (.ref 15), some (.int v1), some (.int v2), some (.int v3), none] [.int s0] (shH σ τ) (some (.int z.1)) (shH z.2 τ) := by
  unfold Re_atom_b73 at h
  obtain ⟨g1, h⟩ := gd_in h
  refine pmSeg_U (pc' := 76) (ls' := [some (.ref 15), some (.int v1), some (.int v2), some (.int v3), some (.int s0)]) (st' := [.ref 15]) 2 rfl ?_
  refine pu_get rfl rfl rfl (shp_mX rfl (by decide) (po_nn g1)) ?_
  refine pmSeg_U (pc' := 82) (ls' := [some (.ref 15), some (.int v1), some (.int v2), some (.int v3), some (.int s0)]) (st' := [.int s0, .int v2, .ref (ix (σ 15 2))]) 2 rfl ?_
  obtain ⟨q82, hq82, h⟩ := bd_in h
  refine pmU_C (av := [.ref (ix (σ 15 2)), .int v2, .int s0]) (rest := []) rfl rfl rfl rfl (pmC_virt rfl rfl rfl (Po_k g1)) (L_Po_append (d + 0) g1 hq82) ?_
  refine pmSeg_U (pc' := 88) (ls' := [some (.ref 15), some (.int v1), some (.int v2), some (.int v3), some (.int s0)]) (st' := [.int 104, .int v2]) 2 rfl ?_
  refine pu_icmpP (tg := 99) h rfl rfl rfl (fun h => ?_) (fun h => ?_)
  · refine pmSeg_U (pc' := 99) (ls' := [some (.ref 15), some (.int v1), some (.int v2), some (.int v3), some (.int s0)]) (st' := []) 0 rfl ?_
    exact L_Re_atom_b99 d h
  · refine pmSeg_U (pc' := 96) (ls' := [some (.ref 15), some (.int v1), some (.int v2), some (.int v3), some (.int s0)]) (st' := [.int (1 <<< (s0 &&& 31)), .ref 15]) 4 rfl ?_
    refine pu_put rfl rfl rfl rfl rfl (shp_pX rfl (by decide)) ?_
    refine pmSeg_U (pc' := 99) (ls' := [some (.ref 15), some (.int v1), some (.int v2), some (.int v3), some (.int s0)]) (st' := []) 0 rfl ?_
    exact L_Re_atom_b99 d h
theorem L_Re_atom {S : pmS} (d : Nat) {v1 : Int32} {σ τ : Mem} {z : Int32 × Mem}  (h : Re_atom v1 σ = some z) : pmX S (d + 3) 52 [.ref 15, .int v1] (shH σ τ) (some (.int z.1)) (shH z.2 τ) := by
  unfold Re_atom at h
  refine pmU_X rfl ?_
  refine pmSeg_U (pc' := 1) (ls' := [some (.ref 15), some (.int v1), none, none, none]) (st' := [.ref 15]) 1 rfl ?_
  obtain ⟨q1, hq1, h⟩ := bd_in h
  refine pmU_C (av := [.ref 15]) (rest := []) rfl rfl rfl rfl rfl (L_Re_next (d + 1) hq1) ?_
  refine pmSeg_U (pc' := 6) (ls' := [some (.ref 15), some (.int v1), some (.int q1), none, none]) (st' := [.int q1]) 2 rfl ?_
  refine pmU_C (av := [.int q1]) (rest := []) rfl rfl rfl rfl rfl (L_Re_typeOf (d + 1)) ?_
  refine pmSeg_U (pc' := 12) (ls' := [some (.ref 15), some (.int v1), some (.int q1), some (.int (Re_typeOf q1)), none]) (st' := [.int 0, .ref 15]) 3 rfl ?_
  refine pu_put rfl rfl rfl rfl rfl (shp_pX rfl (by decide)) ?_
  refine pmSeg_U (pc' := 17) (ls' := [some (.ref 15), some (.int v1), some (.int q1), some (.int (Re_typeOf q1)), none]) (st' := [.int (-1), .int (Re_typeOf q1)]) 2 rfl ?_
  refine pu_icmpP (tg := 29) h rfl rfl rfl (fun h => ?_) (fun h => ?_)
  · refine pmSeg_U (pc' := 29) (ls' := [some (.ref 15), some (.int v1), some (.int q1), some (.int (Re_typeOf q1)), none]) (st' := []) 0 rfl ?_
    refine pmU_le (a := [some (.ref 15), none, none, none, none]) (le_s (le_v rfl (le_v rfl (le_v rfl (le_s le_nil))))) ?_
    exact L_Re_atom_b29 d h
  · refine pmSeg_U (pc' := 26) (ls' := [some (.ref 15), some (.int v1), some (.int q1), some (.int (Re_typeOf q1)), none]) (st' := [.int 12, .int ((mput σ 15 6 0) 15 5)]) 3 rfl ?_
    refine pu_icmpP (tg := 35) h rfl rfl rfl (fun h => ?_) (fun h => ?_)
    · refine pmSeg_U (pc' := 42) (ls' := [some (.ref 15), some (.int v1), some (.int q1), some (.int (Re_typeOf q1)), none]) (st' := [.int (((mput σ 15 6 0) 15 3) + 1), .ref 15]) 5 rfl ?_
      refine pu_put rfl rfl rfl rfl rfl (shp_pX rfl (by decide)) ?_
      refine pmSeg_U (pc' := 52) (ls' := [some (.ref 15), some (.int v1), some (.int q1), some (.int (Re_typeOf q1)), none]) (st' := [.int (((mput (mput σ 15 6 0) 15 3 (((mput σ 15 6 0) 15 3) + 1)) 15 5) + 1), .ref 15]) 5 rfl ?_
      refine pu_put rfl rfl rfl rfl rfl (shp_pX rfl (by decide)) ?_
      refine pmSeg_U (pc' := 56) (ls' := [some (.ref 15), some (.int v1), some (.int q1), some (.int (Re_typeOf q1)), none]) (st' := [.int q1]) 1 rfl ?_
      refine pmU_C (av := [.int q1]) (rest := []) rfl rfl rfl rfl rfl (L_Re_isNumbered (d + 1)) ?_
      refine pmSeg_U (pc' := 59) (ls' := [some (.ref 15), some (.int v1), some (.int q1), some (.int (Re_typeOf q1)), none]) (st' := [.int (Re_isNumbered q1)]) 0 rfl ?_
      refine pu_ifP (tg := 69) h rfl rfl rfl (fun h => ?_) (fun h => ?_)
      · refine pmSeg_U (pc' := 70) (ls' := [some (.ref 15), some (.int v1), some (.int q1), some (.int (Re_typeOf q1)), none]) (st' := [.int q1]) 1 rfl ?_
        refine pmU_C (av := [.int q1]) (rest := []) rfl rfl rfl rfl rfl (L_Re_constantOf (d + 1)) ?_
        refine pmSeg_U (pc' := 73) (ls' := [some (.ref 15), some (.int v1), some (.int q1), some (.int (Re_typeOf q1)), none]) (st' := [.int (Re_constantOf q1)]) 0 rfl ?_
        exact L_Re_atom_b73 d h
      · refine pmSeg_U (pc' := 63) (ls' := [some (.ref 15), some (.int v1), some (.int q1), some (.int (Re_typeOf q1)), none]) (st' := [.ref 15]) 1 rfl ?_
        obtain ⟨q63, hq63, h⟩ := bd_in h
        refine pmU_C (av := [.ref 15]) (rest := []) rfl rfl rfl rfl rfl (L_Re_digit (d + 0) hq63) ?_
        refine pmSeg_U (pc' := 73) (ls' := [some (.ref 15), some (.int v1), some (.int q1), some (.int (Re_typeOf q1)), none]) (st' := [.int q63.1]) 1 rfl ?_
        exact L_Re_atom_b73 d h
    · refine pmSeg_U (pc' := 29) (ls' := [some (.ref 15), some (.int v1), some (.int q1), some (.int (Re_typeOf q1)), none]) (st' := []) 0 rfl ?_
      refine pmU_le (a := [some (.ref 15), none, none, none, none]) (le_s (le_v rfl (le_v rfl (le_v rfl (le_s le_nil))))) ?_
      exact L_Re_atom_b29 d h
theorem L_Re_bracketed {S : pmS} (d n : Nat) {rc : Nat → Int32 → Int32 → Mem → Option (Int32 × Mem)} (Hrc : ∀ {s : Nat} {a b : Int32} {σ τ : Mem} {z : Int32 × Mem}, rc s a b σ = some z → pmX S (d + n + 4) (jrcT s) [.ref 15, .int a, .int b] (shH σ τ) (some (.int z.1)) (shH z.2 τ))  {v1 : Int32} {v2 : Int32} {σ τ : Mem} {z : Int32 × Mem}  (h : Re_bracketed rc v1 v2 σ = some z) : pmU S (d + n + 4) 60 0 [some (.ref 15), some (.int v1), some (.int v2), none] [] (shH σ τ) (some (.int z.1)) (shH z.2 τ) := by
  unfold Re_bracketed at h
  refine pmSeg_U (pc' := 3) (ls' := [some (.ref 15), some (.int v1), some (.int v2), none]) (st' := [.int v2, .int v1, .ref 15]) 3 rfl ?_
  obtain ⟨q3, hq3, h⟩ := bd_in h
  refine pmU_C (av := [.ref 15, .int v1, .int v2]) (rest := []) rfl rfl rfl rfl rfl (Hrc hq3) ?_
  refine pmSeg_U (pc' := 10) (ls' := [some (.ref 15), some (.int v1), some (.int v2), some (.int q3.1)]) (st' := [.int 41, .ref 15]) 3 rfl ?_
  obtain ⟨q10, hq10, h⟩ := bd_in h
  refine pmU_C (av := [.ref 15, .int 41]) (rest := []) rfl rfl rfl rfl rfl (L_Re_take (d + n + 2) hq10) ?_
  refine pmSeg_U (pc' := 14) (ls' := [some (.ref 15), some (.int v1), some (.int v2), some (.int q3.1)]) (st' := [.int q3.1]) 1 rfl ?_
  cases h
  exact pmU_T rfl rfl rfl rfl rfl rfl
theorem L_Re_choice {S : pmS} (d n : Nat) {rc : Nat → Int32 → Int32 → Mem → Option (Int32 × Mem)} (Hrc : ∀ {s : Nat} {a b : Int32} {σ τ : Mem} {z : Int32 × Mem}, rc s a b σ = some z → pmX S (d + n + 4) (jrcT s) [.ref 15, .int a, .int b] (shH σ τ) (some (.int z.1)) (shH z.2 τ))  {v1 : Int32} {v2 : Int32} {σ τ : Mem} {z : Int32 × Mem}  (h : Re_choice rc v1 v2 σ = some z) : pmU S (d + n + 4) 61 0 [some (.ref 15), some (.int v1), some (.int v2), none, none, none, none, none, none, none, none, none] [] (shH σ τ) (some (.int z.1)) (shH z.2 τ) := by
  unfold Re_choice at h
  refine pmSeg_U (pc' := 8) (ls' := [some (.ref 15), some (.int v1), some (.int v2), some (.int (σ 15 3)), none, none, none, none, none, none, none, none]) (st' := [.int v2, .int v1, .ref 15]) 6 rfl ?_
  obtain ⟨q8, hq8, h⟩ := bd_in h
  refine pmU_C (av := [.ref 15, .int v1, .int v2]) (rest := []) rfl rfl rfl rfl rfl (Hrc hq8) ?_
  refine pmSeg_U (pc' := 18) (ls' := [some (.ref 15), some (.int v1), some (.int v2), some (.int (σ 15 3)), some (.int q8.1), none, none, none, none, none, none, none]) (st' := [.int (σ 15 3), .int 1, .int q8.1, .ref 15]) 5 rfl ?_
  obtain ⟨q18, hq18, h⟩ := bd_in h
  refine pmU_C (av := [.ref 15, .int q8.1, .int 1, .int (σ 15 3)]) (rest := []) rfl rfl rfl rfl rfl (L_Re_lookAtEnded (d + n + 2) hq18) ?_
  refine pmSeg_U (pc' := 32) (ls' := [some (.ref 15), some (.int v1), some (.int v2), some (.int (σ 15 3)), some (.int q8.1), some (.int (q18 15 6)), none, none, none, none, none, none]) (st' := [.int 91, .int 58, .ref 15]) 6 rfl ?_
  obtain ⟨q32, hq32, h⟩ := bd_in h
  refine pmU_C (av := [.ref 15, .int 58, .int 91]) (rest := []) rfl rfl rfl rfl rfl (L_Re_branchAt (d + n + 1) hq32) ?_
  refine pmSeg_U (pc' := 43) (ls' := [some (.ref 15), some (.int v1), some (.int v2), some (.int (σ 15 3)), some (.int q8.1), some (.int (q18 15 6)), some (.int q32.1), none, none, none, none, none]) (st' := [.int (v2 ||| (q18 15 6)), .int v1, .ref 15]) 6 rfl ?_
  obtain ⟨q43, hq43, h⟩ := bd_in h
  refine pmU_C (av := [.ref 15, .int v1, .int (v2 ||| (q18 15 6))]) (rest := []) rfl rfl rfl rfl rfl (Hrc hq43) ?_
  refine pmSeg_U (pc' := 62) (ls' := [some (.ref 15), some (.int v1), some (.int v2), some (.int (σ 15 3)), some (.int q8.1), some (.int (q18 15 6)), some (.int q32.1), some (.int q43.1), some (.int ((q18 15 6) ||| (q43.2 15 6))), none, none, none]) (st' := [.int 58, .int 58, .ref 15]) 9 rfl ?_
  obtain ⟨q62, hq62, h⟩ := bd_in h
  refine pmU_C (av := [.ref 15, .int 58, .int 58]) (rest := []) rfl rfl rfl rfl rfl (L_Re_branchAt (d + n + 1) hq62) ?_
  obtain ⟨g1, h⟩ := gd_in h
  refine pmSeg_U (pc' := 68) (ls' := [some (.ref 15), some (.int v1), some (.int v2), some (.int (σ 15 3)), some (.int q8.1), some (.int (q18 15 6)), some (.int q32.1), some (.int q43.1), some (.int ((q18 15 6) ||| (q43.2 15 6))), some (.int q62.1), none, none]) (st' := [.ref 15]) 2 rfl ?_
  refine pu_get rfl rfl rfl (shp_mX rfl (by decide) (po_nn g1)) ?_
  refine pmSeg_U (pc' := 73) (ls' := [some (.ref 15), some (.int v1), some (.int v2), some (.int (σ 15 3)), some (.int q8.1), some (.int (q18 15 6)), some (.int q32.1), some (.int q43.1), some (.int ((q18 15 6) ||| (q43.2 15 6))), some (.int q62.1), none, none]) (st' := [.int q32.1, .ref (ix (q62.2 15 2))]) 1 rfl ?_
  obtain ⟨q73, hq73, h⟩ := bd_in h
  refine pmU_C (av := [.ref (ix (q62.2 15 2)), .int q32.1]) (rest := []) rfl rfl rfl rfl (pmC_virt rfl rfl rfl (Po_k g1)) (L_Po_landHere (d + n + 3) g1 hq73) ?_
  refine pmSeg_U (pc' := 85) (ls' := [some (.ref 15), some (.int v1), some (.int v2), some (.int (σ 15 3)), some (.int q8.1), some (.int (q18 15 6)), some (.int q32.1), some (.int q43.1), some (.int ((q18 15 6) ||| (q43.2 15 6))), some (.int q62.1), some (.int (q73 15 3)), none]) (st' := [.int v2, .int v1, .ref 15]) 6 rfl ?_
  obtain ⟨q85, hq85, h⟩ := bd_in h
  refine pmU_C (av := [.ref 15, .int v1, .int v2]) (rest := []) rfl rfl rfl rfl rfl (Hrc hq85) ?_
  refine pmSeg_U (pc' := 97) (ls' := [some (.ref 15), some (.int v1), some (.int v2), some (.int (σ 15 3)), some (.int q8.1), some (.int (q18 15 6)), some (.int q32.1), some (.int q43.1), some (.int ((q18 15 6) ||| (q43.2 15 6))), some (.int q62.1), some (.int (q73 15 3)), some (.int q85.1)]) (st' := [.int (q73 15 3), .int q43.1, .int q85.1, .ref 15]) 5 rfl ?_
  obtain ⟨q97, hq97, h⟩ := bd_in h
  refine pmU_C (av := [.ref 15, .int q85.1, .int q43.1, .int (q73 15 3)]) (rest := []) rfl rfl rfl rfl rfl (L_Re_lookAtEnded (d + n + 2) hq97) ?_
  refine pmSeg_U (pc' := 103) (ls' := [some (.ref 15), some (.int v1), some (.int v2), some (.int (σ 15 3)), some (.int q8.1), some (.int (q18 15 6)), some (.int q32.1), some (.int q43.1), some (.int ((q18 15 6) ||| (q43.2 15 6))), some (.int q62.1), some (.int (q73 15 3)), some (.int q85.1)]) (st' := [.int 93, .ref 15]) 2 rfl ?_
  obtain ⟨q103, hq103, h⟩ := bd_in h
  refine pmU_C (av := [.ref 15, .int 93]) (rest := []) rfl rfl rfl rfl rfl (L_Re_take (d + n + 2) hq103) ?_
  obtain ⟨g2, h⟩ := gd_in h
  refine pmSeg_U (pc' := 107) (ls' := [some (.ref 15), some (.int v1), some (.int v2), some (.int (σ 15 3)), some (.int q8.1), some (.int (q18 15 6)), some (.int q32.1), some (.int q43.1), some (.int ((q18 15 6) ||| (q43.2 15 6))), some (.int q62.1), some (.int (q73 15 3)), some (.int q85.1)]) (st' := [.ref 15]) 1 rfl ?_
  refine pu_get rfl rfl rfl (shp_mX rfl (by decide) (po_nn g2)) ?_
  refine pmSeg_U (pc' := 112) (ls' := [some (.ref 15), some (.int v1), some (.int v2), some (.int (σ 15 3)), some (.int q8.1), some (.int (q18 15 6)), some (.int q32.1), some (.int q43.1), some (.int ((q18 15 6) ||| (q43.2 15 6))), some (.int q62.1), some (.int (q73 15 3)), some (.int q85.1)]) (st' := [.int q62.1, .ref (ix (q103 15 2))]) 1 rfl ?_
  obtain ⟨q112, hq112, h⟩ := bd_in h
  refine pmU_C (av := [.ref (ix (q103 15 2)), .int q62.1]) (rest := []) rfl rfl rfl rfl (pmC_virt rfl rfl rfl (Po_k g2)) (L_Po_landHere (d + n + 3) g2 hq112) ?_
  refine pmSeg_U (pc' := 123) (ls' := [some (.ref 15), some (.int v1), some (.int v2), some (.int (σ 15 3)), some (.int q8.1), some (.int (q18 15 6)), some (.int q32.1), some (.int q43.1), some (.int ((q18 15 6) ||| (q43.2 15 6))), some (.int q62.1), some (.int (q73 15 3)), some (.int q85.1)]) (st' := [.int (((q18 15 6) ||| (q43.2 15 6)) &&& (q112 15 6)), .ref 15]) 5 rfl ?_
  refine pu_put rfl rfl rfl rfl rfl (shp_pX rfl (by decide)) ?_
  refine pmSeg_U (pc' := 128) (ls' := [some (.ref 15), some (.int v1), some (.int v2), some (.int (σ 15 3)), some (.int q8.1), some (.int (q18 15 6)), some (.int q32.1), some (.int q43.1), some (.int ((q18 15 6) ||| (q43.2 15 6))), some (.int q62.1), some (.int (q73 15 3)), some (.int q85.1)]) (st' := [.int q43.1]) 1 rfl ?_
  cases h
  exact pmU_T rfl rfl rfl rfl rfl rfl
theorem L_Re_not {S : pmS} (d n : Nat) {rc : Nat → Int32 → Int32 → Mem → Option (Int32 × Mem)} (Hrc : ∀ {s : Nat} {a b : Int32} {σ τ : Mem} {z : Int32 × Mem}, rc s a b σ = some z → pmX S (d + n + 4) (jrcT s) [.ref 15, .int a, .int b] (shH σ τ) (some (.int z.1)) (shH z.2 τ))  {v1 : Int32} {v2 : Int32} {σ τ : Mem} {z : Int32 × Mem}  (h : Re_not rc v1 v2 σ = some z) : pmU S (d + n + 4) 58 0 [some (.ref 15), some (.int v1), some (.int v2), none, none] [] (shH σ τ) (some (.int z.1)) (shH z.2 τ) := by
  unfold Re_not at h
  refine pmSeg_U (pc' := 8) (ls' := [some (.ref 15), some (.int v1), some (.int v2), some (.int (σ 15 3)), none]) (st' := [.int v2, .int v1, .ref 15]) 6 rfl ?_
  obtain ⟨q8, hq8, h⟩ := bd_in h
  refine pmU_C (av := [.ref 15, .int v1, .int v2]) (rest := []) rfl rfl rfl rfl rfl (Hrc hq8) ?_
  refine pmSeg_U (pc' := 18) (ls' := [some (.ref 15), some (.int v1), some (.int v2), some (.int (σ 15 3)), some (.int q8.1)]) (st' := [.int (σ 15 3), .int 1, .int q8.1, .ref 15]) 5 rfl ?_
  obtain ⟨q18, hq18, h⟩ := bd_in h
  refine pmU_C (av := [.ref 15, .int q8.1, .int 1, .int (σ 15 3)]) (rest := []) rfl rfl rfl rfl rfl (L_Re_lookAt (d + n + 3) hq18) ?_
  obtain ⟨g1, h⟩ := gd_in h
  refine pmSeg_U (pc' := 22) (ls' := [some (.ref 15), some (.int v1), some (.int v2), some (.int (σ 15 3)), some (.int q8.1)]) (st' := [.ref 15]) 1 rfl ?_
  refine pu_get rfl rfl rfl (shp_mX rfl (by decide) (po_nn g1)) ?_
  refine pmSeg_U (pc' := 28) (ls' := [some (.ref 15), some (.int v1), some (.int v2), some (.int (σ 15 3)), some (.int q8.1)]) (st' := [.int 0, .int 33, .ref (ix (q18 15 2))]) 2 rfl ?_
  obtain ⟨q28, hq28, h⟩ := bd_in h
  refine pmU_C (av := [.ref (ix (q18 15 2)), .int 33, .int 0]) (rest := []) rfl rfl rfl rfl (pmC_virt rfl rfl rfl (Po_k g1)) (L_Po_append (d + n + 2) g1 hq28) ?_
  refine pmSeg_U (pc' := 33) (ls' := [some (.ref 15), some (.int v1), some (.int v2), some (.int (σ 15 3)), some (.int q8.1)]) (st' := [.int 0, .ref 15]) 2 rfl ?_
  refine pu_put rfl rfl rfl rfl rfl (shp_pX rfl (by decide)) ?_
  refine pmSeg_U (pc' := 37) (ls' := [some (.ref 15), some (.int v1), some (.int v2), some (.int (σ 15 3)), some (.int q8.1)]) (st' := [.int 1]) 1 rfl ?_
  cases h
  exact pmU_T rfl rfl rfl rfl rfl rfl
theorem L_Re_term_b29 {S : pmS} (d n : Nat) {rc : Nat → Int32 → Int32 → Mem → Option (Int32 × Mem)} (Hrc : ∀ {s : Nat} {a b : Int32} {σ τ : Mem} {z : Int32 × Mem}, rc s a b σ = some z → pmX S (d + n + 4) (jrcT s) [.ref 15, .int a, .int b] (shH σ τ) (some (.int z.1)) (shH z.2 τ))  {v1 : Int32} {v2 : Int32} {v3 : Int32} {σ τ : Mem} {z : Int32 × Mem}  (h : Re_term_b29 rc v1 v2 v3 σ = some z) : pmU S (d + n + 4) 51 29 [some (.ref 15), some (.int v1), some (.int v2), some (.int v3)] [] (shH σ τ) (some (.int z.1)) (shH z.2 τ) := by
  unfold Re_term_b29 at h
  refine pmSeg_U (pc' := 32) (ls' := [some (.ref 15), some (.int v1), some (.int v2), some (.int v3)]) (st' := [.int 6, .int v1]) 2 rfl ?_
  refine pu_icmpP (tg := 41) h rfl rfl rfl (fun h => ?_) (fun h => ?_)
  · refine pmSeg_U (pc' := 43) (ls' := [some (.ref 15), some (.int v1), some (.int v2), some (.int v3)]) (st' := [.int v3, .ref 15]) 2 rfl ?_
    obtain ⟨q43, hq43, h⟩ := bd_in h
    refine pmU_C (av := [.ref 15, .int v3]) (rest := []) rfl rfl rfl rfl rfl (L_Re_take (d + n + 2) hq43) ?_
    refine pmSeg_U (pc' := 47) (ls' := [some (.ref 15), some (.int v1), some (.int v2), some (.int v3)]) (st' := [.int v3]) 1 rfl ?_
    refine br_sw h (fun e1 h => ?_) (fun e1 h => ?_)
    · refine pu_sw (v := 33) (tg := 72) e1 rfl rfl rfl ?_
      refine pmSeg_U (pc' := 77) (ls' := [some (.ref 15), some (.int v1), some (.int v2), some (.int v3)]) (st' := [.int v2, .int (v1 + 1), .ref 15]) 5 rfl ?_
      obtain ⟨q77, hq77, h⟩ := bd_in h
      refine pmU_C (av := [.ref 15, .int (v1 + 1), .int v2]) (rest := []) rfl rfl rfl rfl rfl (Hrc hq77) ?_
      refine pmSeg_U (pc' := 80) (ls' := [some (.ref 15), some (.int v1), some (.int v2), some (.int v3)]) (st' := [.int q77.1]) 0 rfl ?_
      cases h
      exact pmU_T rfl rfl rfl rfl rfl rfl
    refine br_sw h (fun e2 h => ?_) (fun e2 h => ?_)
    · refine pu_sw (v := 40) (tg := 81) e2 rfl rfl rfl ?_
      refine pmSeg_U (pc' := 86) (ls' := [some (.ref 15), some (.int v1), some (.int v2), some (.int v3)]) (st' := [.int v2, .int (v1 + 1), .ref 15]) 5 rfl ?_
      obtain ⟨q86, hq86, h⟩ := bd_in h
      refine pmU_C (av := [.ref 15, .int (v1 + 1), .int v2]) (rest := []) rfl rfl rfl rfl rfl (Hrc hq86) ?_
      refine pmSeg_U (pc' := 89) (ls' := [some (.ref 15), some (.int v1), some (.int v2), some (.int v3)]) (st' := [.int q86.1]) 0 rfl ?_
      cases h
      exact pmU_T rfl rfl rfl rfl rfl rfl
    refine pu_lswD (tg := 90) rfl rfl (ls_c (lv_neT e1 rfl) (ls_c (lv_neT e2 rfl) ls_n)) rfl ?_
    refine pmSeg_U (pc' := 95) (ls' := [some (.ref 15), some (.int v1), some (.int v2), some (.int v3)]) (st' := [.int v2, .int (v1 + 1), .ref 15]) 5 rfl ?_
    obtain ⟨q95, hq95, h⟩ := bd_in h
    refine pmU_C (av := [.ref 15, .int (v1 + 1), .int v2]) (rest := []) rfl rfl rfl rfl rfl (Hrc hq95) ?_
    refine pmSeg_U (pc' := 98) (ls' := [some (.ref 15), some (.int v1), some (.int v2), some (.int v3)]) (st' := [.int q95.1]) 0 rfl ?_
    cases h
    exact pmU_T rfl rfl rfl rfl rfl rfl
  · refine pmSeg_U (pc' := 36) (ls' := [some (.ref 15), some (.int v1), some (.int v2), some (.int v3)]) (st' := [.ref 15]) 1 rfl ?_
    obtain ⟨q36, hq36, h⟩ := bd_in h
    refine pmU_C (av := [.ref 15]) (rest := []) rfl rfl rfl rfl rfl (L_Re_refuseByte (d + n + 3) hq36) ?_
    refine pmSeg_U (pc' := 40) (ls' := [some (.ref 15), some (.int v1), some (.int v2), some (.int v3)]) (st' := [.int 1]) 1 rfl ?_
    cases h
    exact pmU_T rfl rfl rfl rfl rfl rfl
theorem L_Re_term {S : pmS} (d n : Nat) {rc : Nat → Int32 → Int32 → Mem → Option (Int32 × Mem)} (Hrc : ∀ {s : Nat} {a b : Int32} {σ τ : Mem} {z : Int32 × Mem}, rc s a b σ = some z → pmX S (d + n + 4) (jrcT s) [.ref 15, .int a, .int b] (shH σ τ) (some (.int z.1)) (shH z.2 τ))  {v1 : Int32} {v2 : Int32} {σ τ : Mem} {z : Int32 × Mem}  (h : Re_term rc v1 v2 σ = some z) : pmU S (d + n + 4) 51 0 [some (.ref 15), some (.int v1), some (.int v2), none] [] (shH σ τ) (some (.int z.1)) (shH z.2 τ) := by
  unfold Re_term at h
  refine pmSeg_U (pc' := 1) (ls' := [some (.ref 15), some (.int v1), some (.int v2), none]) (st' := [.ref 15]) 1 rfl ?_
  obtain ⟨q1, hq1, h⟩ := bd_in h
  refine pmU_C (av := [.ref 15]) (rest := []) rfl rfl rfl rfl rfl (L_Re_next (d + n + 3) hq1) ?_
  refine pmSeg_U (pc' := 8) (ls' := [some (.ref 15), some (.int v1), some (.int v2), some (.int q1)]) (st' := [.int 33, .int q1]) 3 rfl ?_
  refine pu_icmpP (tg := 29) h rfl rfl rfl (fun h => ?_) (fun h => ?_)
  · refine pmSeg_U (pc' := 29) (ls' := [some (.ref 15), some (.int v1), some (.int v2), some (.int q1)]) (st' := []) 0 rfl ?_
    exact L_Re_term_b29 d n Hrc h
  · refine pmSeg_U (pc' := 14) (ls' := [some (.ref 15), some (.int v1), some (.int v2), some (.int q1)]) (st' := [.int 40, .int q1]) 2 rfl ?_
    refine pu_icmpP (tg := 29) h rfl rfl rfl (fun h => ?_) (fun h => ?_)
    · refine pmSeg_U (pc' := 29) (ls' := [some (.ref 15), some (.int v1), some (.int v2), some (.int q1)]) (st' := []) 0 rfl ?_
      exact L_Re_term_b29 d n Hrc h
    · refine pmSeg_U (pc' := 20) (ls' := [some (.ref 15), some (.int v1), some (.int v2), some (.int q1)]) (st' := [.int 91, .int q1]) 2 rfl ?_
      refine pu_icmpP (tg := 29) h rfl rfl rfl (fun h => ?_) (fun h => ?_)
      · refine pmSeg_U (pc' := 29) (ls' := [some (.ref 15), some (.int v1), some (.int v2), some (.int q1)]) (st' := []) 0 rfl ?_
        exact L_Re_term_b29 d n Hrc h
      · refine pmSeg_U (pc' := 25) (ls' := [some (.ref 15), some (.int v1), some (.int v2), some (.int q1)]) (st' := [.int v2, .ref 15]) 2 rfl ?_
        obtain ⟨q25, hq25, h⟩ := bd_in h
        refine pmU_C (av := [.ref 15, .int v2]) (rest := []) rfl rfl rfl rfl rfl (L_Re_atom (d + n + 1) hq25) ?_
        refine pmSeg_U (pc' := 28) (ls' := [some (.ref 15), some (.int v1), some (.int v2), some (.int q1)]) (st' := [.int q25.1]) 0 rfl ?_
        cases h
        exact pmU_T rfl rfl rfl rfl rfl rfl
theorem L_Re_sum_b42 {S : pmS} (d n : Nat) {rc : Nat → Int32 → Int32 → Mem → Option (Int32 × Mem)} (Hrc : ∀ {s : Nat} {a b : Int32} {σ τ : Mem} {z : Int32 × Mem}, rc s a b σ = some z → pmX S (d + n + 4) (jrcT s) [.ref 15, .int a, .int b] (shH σ τ) (some (.int z.1)) (shH z.2 τ)) {k16 : Int32 → Int32 → Int32 → Int32 → Int32 → Mem → Option (Int32 × Mem)} (Hk16 : ∀ {v1 : Int32} {v2 : Int32} {v3 : Int32} {v4 : Int32} {v5 : Int32} {σ τ : Mem} {z : Int32 × Mem}, k16 v1 v2 v3 v4 v5 σ = some z → pmU S (d + n + 4) 50 16 [some (.ref 15), some (.int v1), some (.int v2), some (.int v3), some (.int v4), some (.int v5), none, none] [] (shH σ τ) (some (.int z.1)) (shH z.2 τ)) {v1 : Int32} {v2 : Int32} {v3 : Int32} {v4 : Int32} {v5 : Int32} {σ τ : Mem} {z : Int32 × Mem}  (h : Re_sum_b42 rc k16 v1 v2 v3 v4 v5 σ = some z) : pmU S (d + n + 4) 50 42 [some (.ref 15), some (.int v1), some (.int v2), some (.int v3), some (.int v4), some (.int v5), none, none] [] (shH σ τ) (some (.int z.1)) (shH z.2 τ) := by
  unfold Re_sum_b42 at h
  refine pmSeg_U (pc' := 43) (ls' := [some (.ref 15), some (.int v1), some (.int v2), some (.int v3), some (.int v4), some (.int v5), none, none]) (st' := [.ref 15]) 1 rfl ?_
  obtain ⟨q43, hq43, h⟩ := bd_in h
  refine pmU_C (av := [.ref 15]) (rest := []) rfl rfl rfl rfl rfl (L_Re_next (d + n + 3) hq43) ?_
  refine pmSeg_U (pc' := 53) (ls' := [some (.ref 15), some (.int v1), some (.int v2), some (.int v3), some (.int v4), some (.int v5), some (.int q43), none]) (st' := [.int v3, .int 0, .int v4, .ref 15]) 5 rfl ?_
  obtain ⟨q53, hq53, h⟩ := bd_in h
  refine pmU_C (av := [.ref 15, .int v4, .int 0, .int v3]) (rest := []) rfl rfl rfl rfl rfl (L_Re_lookAt (d + n + 3) hq53) ?_
  refine pmSeg_U (pc' := 59) (ls' := [some (.ref 15), some (.int v1), some (.int v2), some (.int v3), some (.int v4), some (.int v5), some (.int q43), none]) (st' := [.int q43, .ref 15]) 2 rfl ?_
  obtain ⟨q59, hq59, h⟩ := bd_in h
  refine pmU_C (av := [.ref 15, .int q43]) (rest := []) rfl rfl rfl rfl rfl (L_Re_take (d + n + 2) hq59) ?_
  refine pmSeg_U (pc' := 71) (ls' := [some (.ref 15), some (.int v1), some (.int v2), some (.int v3), some (.int v4), some (.int v5), some (.int q43), some (.int (q59 15 3))]) (st' := [.int v2, .int v1, .ref 15]) 6 rfl ?_
  obtain ⟨q71, hq71, h⟩ := bd_in h
  refine pmU_C (av := [.ref 15, .int v1, .int v2]) (rest := []) rfl rfl rfl rfl rfl (Hrc hq71) ?_
  refine pmSeg_U (pc' := 82) (ls' := [some (.ref 15), some (.int v1), some (.int v2), some (.int v3), some (.int q71.1), some (.int v5), some (.int q43), some (.int (q59 15 3))]) (st' := [.int (q59 15 3), .int 0, .int q71.1, .ref 15]) 5 rfl ?_
  obtain ⟨q82, hq82, h⟩ := bd_in h
  refine pmU_C (av := [.ref 15, .int q71.1, .int 0, .int (q59 15 3)]) (rest := []) rfl rfl rfl rfl rfl (L_Re_lookAt (d + n + 3) hq82) ?_
  obtain ⟨g1, h⟩ := gd_in h
  refine pmSeg_U (pc' := 86) (ls' := [some (.ref 15), some (.int v1), some (.int v2), some (.int v3), some (.int q71.1), some (.int v5), some (.int q43), some (.int (q59 15 3))]) (st' := [.ref 15]) 1 rfl ?_
  refine pu_get rfl rfl rfl (shp_mX rfl (by decide) (po_nn g1)) ?_
  refine pmSeg_U (pc' := 92) (ls' := [some (.ref 15), some (.int v1), some (.int v2), some (.int v3), some (.int q71.1), some (.int v5), some (.int q43), some (.int (q59 15 3))]) (st' := [.int 0, .int q43, .ref (ix (q82 15 2))]) 2 rfl ?_
  obtain ⟨q92, hq92, h⟩ := bd_in h
  refine pmU_C (av := [.ref (ix (q82 15 2)), .int q43, .int 0]) (rest := []) rfl rfl rfl rfl (pmC_virt rfl rfl rfl (Po_k g1)) (L_Po_append (d + n + 2) g1 hq92) ?_
  refine pmSeg_U (pc' := 97) (ls' := [some (.ref 15), some (.int v1), some (.int v2), some (.int v3), some (.int q71.1), some (.int v5), some (.int q43), some (.int (q59 15 3))]) (st' := [.int 0, .ref 15]) 2 rfl ?_
  refine pu_put rfl rfl rfl rfl rfl (shp_pX rfl (by decide)) ?_
  refine pmSeg_U (pc' := 16) (ls' := [some (.ref 15), some (.int v1), some (.int v2), some (.int v3), some (.int q71.1), some (.int (v5 + 1)), some (.int q43), some (.int (q59 15 3))]) (st' := []) 2 rfl ?_
  refine pmU_le (a := [some (.ref 15), some (.int v1), some (.int v2), some (.int v3), some (.int q71.1), some (.int (v5 + 1)), none, none]) (le_s (le_s (le_s (le_s (le_s (le_s (le_v rfl (le_v rfl le_nil)))))))) ?_
  exact Hk16 h
theorem L_Re_sum_b16 {S : pmS} (d n : Nat) {rc : Nat → Int32 → Int32 → Mem → Option (Int32 × Mem)} (Hrc : ∀ {s : Nat} {a b : Int32} {σ τ : Mem} {z : Int32 × Mem}, rc s a b σ = some z → pmX S (d + n + 4) (jrcT s) [.ref 15, .int a, .int b] (shH σ τ) (some (.int z.1)) (shH z.2 τ))  : ∀ (n0 : Nat) {v1 : Int32} {v2 : Int32} {v3 : Int32} {v4 : Int32} {v5 : Int32} {σ τ : Mem} {z : Int32 × Mem}, Re_sum_b16 rc n0 v1 v2 v3 v4 v5 σ = some z → pmU S (d + n + 4) 50 16 [some (.ref 15), some (.int v1), some (.int v2), some (.int v3), some (.int v4), some (.int v5), none, none] [] (shH σ τ) (some (.int z.1)) (shH z.2 τ) := by
  intro n0
  induction n0 with
  | zero =>
    intro v1 v2 v3 v4 v5 σ τ z  h
    unfold Re_sum_b16 at h
    cases h
  | succ n1 ih =>
    intro v1 v2 v3 v4 v5 σ τ z  h
    unfold Re_sum_b16 at h
    refine pmSeg_U (pc' := 21) (ls' := [some (.ref 15), some (.int v1), some (.int v2), some (.int v3), some (.int v4), some (.int v5), none, none]) (st' := [.int 160, .int v5]) 2 rfl ?_
    refine pu_icmpP (tg := 106) h rfl rfl rfl (fun h => ?_) (fun h => ?_)
    · refine pmSeg_U (pc' := 108) (ls' := [some (.ref 15), some (.int v1), some (.int v2), some (.int v3), some (.int v4), some (.int v5), none, none]) (st' := [.int v4]) 1 rfl ?_
      cases h
      exact pmU_T rfl rfl rfl rfl rfl rfl
    · refine pmSeg_U (pc' := 25) (ls' := [some (.ref 15), some (.int v1), some (.int v2), some (.int v3), some (.int v4), some (.int v5), none, none]) (st' := [.ref 15]) 1 rfl ?_
      obtain ⟨q25, hq25, h⟩ := bd_in h
      refine pmU_C (av := [.ref 15]) (rest := []) rfl rfl rfl rfl rfl (L_Re_next (d + n + 3) hq25) ?_
      refine pmSeg_U (pc' := 30) (ls' := [some (.ref 15), some (.int v1), some (.int v2), some (.int v3), some (.int v4), some (.int v5), none, none]) (st' := [.int 43, .int q25]) 1 rfl ?_
      refine pu_icmpP (tg := 42) h rfl rfl rfl (fun h => ?_) (fun h => ?_)
      · refine pmSeg_U (pc' := 42) (ls' := [some (.ref 15), some (.int v1), some (.int v2), some (.int v3), some (.int v4), some (.int v5), none, none]) (st' := []) 0 rfl ?_
        exact L_Re_sum_b42 d n Hrc ih h
      · refine pmSeg_U (pc' := 34) (ls' := [some (.ref 15), some (.int v1), some (.int v2), some (.int v3), some (.int v4), some (.int v5), none, none]) (st' := [.ref 15]) 1 rfl ?_
        obtain ⟨q34, hq34, h⟩ := bd_in h
        refine pmU_C (av := [.ref 15]) (rest := []) rfl rfl rfl rfl rfl (L_Re_next (d + n + 3) hq34) ?_
        refine pmSeg_U (pc' := 39) (ls' := [some (.ref 15), some (.int v1), some (.int v2), some (.int v3), some (.int v4), some (.int v5), none, none]) (st' := [.int 45, .int q34]) 1 rfl ?_
        refine pu_icmpP (tg := 106) h rfl rfl rfl (fun h => ?_) (fun h => ?_)
        · refine pmSeg_U (pc' := 108) (ls' := [some (.ref 15), some (.int v1), some (.int v2), some (.int v3), some (.int v4), some (.int v5), none, none]) (st' := [.int v4]) 1 rfl ?_
          cases h
          exact pmU_T rfl rfl rfl rfl rfl rfl
        · refine pmSeg_U (pc' := 42) (ls' := [some (.ref 15), some (.int v1), some (.int v2), some (.int v3), some (.int v4), some (.int v5), none, none]) (st' := []) 0 rfl ?_
          exact L_Re_sum_b42 d n Hrc ih h
theorem L_Re_sum {S : pmS} (d n : Nat) {rc : Nat → Int32 → Int32 → Mem → Option (Int32 × Mem)} (Hrc : ∀ {s : Nat} {a b : Int32} {σ τ : Mem} {z : Int32 × Mem}, rc s a b σ = some z → pmX S (d + n + 4) (jrcT s) [.ref 15, .int a, .int b] (shH σ τ) (some (.int z.1)) (shH z.2 τ))  {v1 : Int32} {v2 : Int32} {σ τ : Mem} {z : Int32 × Mem}  (h : Re_sum rc v1 v2 σ = some z) : pmU S (d + n + 4) 50 0 [some (.ref 15), some (.int v1), some (.int v2), none, none, none, none, none] [] (shH σ τ) (some (.int z.1)) (shH z.2 τ) := by
  unfold Re_sum at h
  refine pmSeg_U (pc' := 8) (ls' := [some (.ref 15), some (.int v1), some (.int v2), some (.int (σ 15 3)), none, none, none, none]) (st' := [.int v2, .int v1, .ref 15]) 6 rfl ?_
  obtain ⟨q8, hq8, h⟩ := bd_in h
  refine pmU_C (av := [.ref 15, .int v1, .int v2]) (rest := []) rfl rfl rfl rfl rfl (Hrc hq8) ?_
  refine pmSeg_U (pc' := 16) (ls' := [some (.ref 15), some (.int v1), some (.int v2), some (.int (σ 15 3)), some (.int q8.1), some (.int 0), none, none]) (st' := []) 3 rfl ?_
  exact L_Re_sum_b16 d n Hrc FU h
