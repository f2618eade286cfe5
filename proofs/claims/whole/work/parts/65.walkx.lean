theorem L_Ju_conditions_b12 {S : pmS} (d : Nat)    : ∀ (n0 : Nat) {v1 : Nat} {v2 : Int32} {v3 : Int32} {σ τ : Mem} {z : Int32 × Mem}, isPo v1 → Ju_conditions_b12 n0 v1 v2 v3 σ = some z → pmU S (d + 2) 78 12 [some (.ref 13), some (.ref v1), some (.int v2), some (.int v3), none, none, none] [] (shH σ τ) (some (.int z.1)) (shH z.2 τ) := by
  intro n0
  induction n0 with
  | zero =>
    intro v1 v2 v3 σ τ z hv1 h
    unfold Ju_conditions_b12 at h
    cases h
  | succ n1 ih =>
    intro v1 v2 v3 σ τ z hv1 h
    unfold Ju_conditions_b12 at h
    refine pmSeg_U (pc' := 14) (ls' := [some (.ref 13), some (.ref v1), some (.int v2), some (.int v3), none, none, none]) (st' := [.ref v1, .int v3]) 2 rfl ?_
    refine pu_get rfl rfl (Po_k hv1) (shp_iX (Po_f9 hv1) (Po_lt hv1)) ?_
    refine pmSeg_U (pc' := 17) (ls' := [some (.ref 13), some (.ref v1), some (.int v2), some (.int v3), none, none, none]) (st' := [.int (σ v1 9), .int v3]) 0 rfl ?_
    refine pu_icmpP (tg := 211) h rfl rfl rfl (fun h => ?_) (fun h => ?_)
    · refine pmSeg_U (pc' := 212) (ls' := [some (.ref 13), some (.ref v1), some (.int v2), some (.int v3), none, none, none]) (st' := [.int 1]) 1 rfl ?_
      cases h
      exact pmU_T rfl rfl rfl rfl rfl rfl
    · refine pmSeg_U (pc' := 25) (ls' := [some (.ref 13), some (.ref v1), some (.int v2), some (.int v3), none, none, none]) (st' := [.int (σ 13 3), .int v3]) 3 rfl ?_
      refine pu_icmpP (tg := 31) h rfl rfl rfl (fun h => ?_) (fun h => ?_)
      · refine pmSeg_U (pc' := 32) (ls' := [some (.ref 13), some (.ref v1), some (.int v2), some (.int v3), none, none, none]) (st' := [.ref v1]) 1 rfl ?_
        refine pu_get rfl rfl (Po_k hv1) (shp_R (Po_f7 hv1)) ?_
        obtain ⟨g1, h⟩ := gd_in h
        refine pmSeg_U (pc' := 36) (ls' := [some (.ref 13), some (.ref v1), some (.int v2), some (.int v3), none, none, none]) (st' := [.int v3, .ref (v1 + 1)]) 1 rfl ?_
        refine pu_iald rfl (Po_a1 hv1).1 g1 (shp_iX (fx_A (Po_a1 hv1)) (Po_a1 hv1).2) ?_
        refine pmSeg_U (pc' := 40) (ls' := [some (.ref 13), some (.ref v1), some (.int v2), some (.int v3), some (.int (σ (v1 + 1) v3.toNatClampNeg)), none, none]) (st' := [.ref v1]) 2 rfl ?_
        refine pu_get rfl rfl (Po_k hv1) (shp_R (Po_f8 hv1)) ?_
        obtain ⟨g2, h⟩ := gd_in h
        refine pmSeg_U (pc' := 44) (ls' := [some (.ref 13), some (.ref v1), some (.int v2), some (.int v3), some (.int (σ (v1 + 1) v3.toNatClampNeg)), none, none]) (st' := [.int v3, .ref (v1 + 2)]) 1 rfl ?_
        refine pu_iald rfl (Po_a2 hv1).1 g2 (shp_iX (fx_A (Po_a2 hv1)) (Po_a2 hv1).2) ?_
        refine pmSeg_U (pc' := 49) (ls' := [some (.ref 13), some (.ref v1), some (.int v2), some (.int v3), some (.int (σ (v1 + 1) v3.toNatClampNeg)), some (.int (σ (v1 + 2) v3.toNatClampNeg)), none]) (st' := [.int (σ (v1 + 1) v3.toNatClampNeg)]) 2 rfl ?_
        refine br_sw h (fun e3 h => ?_) (fun e3 h => ?_)
        · rcases e3 with e3 | e3 | e3 | e3 | e3 | e3
          · refine pu_sw (v := 33) (tg := 159) e3 rfl rfl rfl ?_
            refine pmSeg_U (pc' := 162) (ls' := [some (.ref 13), some (.ref v1), some (.int v2), some (.int v3), some (.int (σ (v1 + 1) v3.toNatClampNeg)), some (.int (σ (v1 + 2) v3.toNatClampNeg)), none]) (st' := [.int (σ (v1 + 1) v3.toNatClampNeg), .ref 13]) 2 rfl ?_
            obtain ⟨q162, hq162, h⟩ := bd_in h
            refine pmU_C (av := [.ref 13, .int (σ (v1 + 1) v3.toNatClampNeg)]) (rest := []) rfl rfl rfl rfl rfl (L_Ju_reckon (d + 0) hq162) ?_
            refine pmSeg_U (pc' := 12) (ls' := [some (.ref 13), some (.ref v1), some (.int v2), some (.int (v3 + 1)), some (.int (σ (v1 + 1) v3.toNatClampNeg)), some (.int (σ (v1 + 2) v3.toNatClampNeg)), none]) (st' := []) 3 rfl ?_
            refine pmU_le (a := [some (.ref 13), some (.ref v1), some (.int v2), some (.int (v3 + 1)), none, none, none]) (le_s (le_s (le_s (le_s (le_v rfl (le_v rfl (le_s le_nil))))))) ?_
            exact ih hv1 h
          · refine pu_sw (v := 35) (tg := 159) e3 rfl rfl rfl ?_
            refine pmSeg_U (pc' := 162) (ls' := [some (.ref 13), some (.ref v1), some (.int v2), some (.int v3), some (.int (σ (v1 + 1) v3.toNatClampNeg)), some (.int (σ (v1 + 2) v3.toNatClampNeg)), none]) (st' := [.int (σ (v1 + 1) v3.toNatClampNeg), .ref 13]) 2 rfl ?_
            obtain ⟨q162, hq162, h⟩ := bd_in h
            refine pmU_C (av := [.ref 13, .int (σ (v1 + 1) v3.toNatClampNeg)]) (rest := []) rfl rfl rfl rfl rfl (L_Ju_reckon (d + 0) hq162) ?_
            refine pmSeg_U (pc' := 12) (ls' := [some (.ref 13), some (.ref v1), some (.int v2), some (.int (v3 + 1)), some (.int (σ (v1 + 1) v3.toNatClampNeg)), some (.int (σ (v1 + 2) v3.toNatClampNeg)), none]) (st' := []) 3 rfl ?_
            refine pmU_le (a := [some (.ref 13), some (.ref v1), some (.int v2), some (.int (v3 + 1)), none, none, none]) (le_s (le_s (le_s (le_s (le_v rfl (le_v rfl (le_s le_nil))))))) ?_
            exact ih hv1 h
          · refine pu_sw (v := 43) (tg := 159) e3 rfl rfl rfl ?_
            refine pmSeg_U (pc' := 162) (ls' := [some (.ref 13), some (.ref v1), some (.int v2), some (.int v3), some (.int (σ (v1 + 1) v3.toNatClampNeg)), some (.int (σ (v1 + 2) v3.toNatClampNeg)), none]) (st' := [.int (σ (v1 + 1) v3.toNatClampNeg), .ref 13]) 2 rfl ?_
            obtain ⟨q162, hq162, h⟩ := bd_in h
            refine pmU_C (av := [.ref 13, .int (σ (v1 + 1) v3.toNatClampNeg)]) (rest := []) rfl rfl rfl rfl rfl (L_Ju_reckon (d + 0) hq162) ?_
            refine pmSeg_U (pc' := 12) (ls' := [some (.ref 13), some (.ref v1), some (.int v2), some (.int (v3 + 1)), some (.int (σ (v1 + 1) v3.toNatClampNeg)), some (.int (σ (v1 + 2) v3.toNatClampNeg)), none]) (st' := []) 3 rfl ?_
            refine pmU_le (a := [some (.ref 13), some (.ref v1), some (.int v2), some (.int (v3 + 1)), none, none, none]) (le_s (le_s (le_s (le_s (le_v rfl (le_v rfl (le_s le_nil))))))) ?_
            exact ih hv1 h
          · refine pu_sw (v := 45) (tg := 159) e3 rfl rfl rfl ?_
            refine pmSeg_U (pc' := 162) (ls' := [some (.ref 13), some (.ref v1), some (.int v2), some (.int v3), some (.int (σ (v1 + 1) v3.toNatClampNeg)), some (.int (σ (v1 + 2) v3.toNatClampNeg)), none]) (st' := [.int (σ (v1 + 1) v3.toNatClampNeg), .ref 13]) 2 rfl ?_
            obtain ⟨q162, hq162, h⟩ := bd_in h
            refine pmU_C (av := [.ref 13, .int (σ (v1 + 1) v3.toNatClampNeg)]) (rest := []) rfl rfl rfl rfl rfl (L_Ju_reckon (d + 0) hq162) ?_
            refine pmSeg_U (pc' := 12) (ls' := [some (.ref 13), some (.ref v1), some (.int v2), some (.int (v3 + 1)), some (.int (σ (v1 + 1) v3.toNatClampNeg)), some (.int (σ (v1 + 2) v3.toNatClampNeg)), none]) (st' := []) 3 rfl ?_
            refine pmU_le (a := [some (.ref 13), some (.ref v1), some (.int v2), some (.int (v3 + 1)), none, none, none]) (le_s (le_s (le_s (le_s (le_v rfl (le_v rfl (le_s le_nil))))))) ?_
            exact ih hv1 h
          · refine pu_sw (v := 60) (tg := 159) e3 rfl rfl rfl ?_
            refine pmSeg_U (pc' := 162) (ls' := [some (.ref 13), some (.ref v1), some (.int v2), some (.int v3), some (.int (σ (v1 + 1) v3.toNatClampNeg)), some (.int (σ (v1 + 2) v3.toNatClampNeg)), none]) (st' := [.int (σ (v1 + 1) v3.toNatClampNeg), .ref 13]) 2 rfl ?_
            obtain ⟨q162, hq162, h⟩ := bd_in h
            refine pmU_C (av := [.ref 13, .int (σ (v1 + 1) v3.toNatClampNeg)]) (rest := []) rfl rfl rfl rfl rfl (L_Ju_reckon (d + 0) hq162) ?_
            refine pmSeg_U (pc' := 12) (ls' := [some (.ref 13), some (.ref v1), some (.int v2), some (.int (v3 + 1)), some (.int (σ (v1 + 1) v3.toNatClampNeg)), some (.int (σ (v1 + 2) v3.toNatClampNeg)), none]) (st' := []) 3 rfl ?_
            refine pmU_le (a := [some (.ref 13), some (.ref v1), some (.int v2), some (.int (v3 + 1)), none, none, none]) (le_s (le_s (le_s (le_s (le_v rfl (le_v rfl (le_s le_nil))))))) ?_
            exact ih hv1 h
          · refine pu_sw (v := 61) (tg := 159) e3 rfl rfl rfl ?_
            refine pmSeg_U (pc' := 162) (ls' := [some (.ref 13), some (.ref v1), some (.int v2), some (.int v3), some (.int (σ (v1 + 1) v3.toNatClampNeg)), some (.int (σ (v1 + 2) v3.toNatClampNeg)), none]) (st' := [.int (σ (v1 + 1) v3.toNatClampNeg), .ref 13]) 2 rfl ?_
            obtain ⟨q162, hq162, h⟩ := bd_in h
            refine pmU_C (av := [.ref 13, .int (σ (v1 + 1) v3.toNatClampNeg)]) (rest := []) rfl rfl rfl rfl rfl (L_Ju_reckon (d + 0) hq162) ?_
            refine pmSeg_U (pc' := 12) (ls' := [some (.ref 13), some (.ref v1), some (.int v2), some (.int (v3 + 1)), some (.int (σ (v1 + 1) v3.toNatClampNeg)), some (.int (σ (v1 + 2) v3.toNatClampNeg)), none]) (st' := []) 3 rfl ?_
            refine pmU_le (a := [some (.ref 13), some (.ref v1), some (.int v2), some (.int (v3 + 1)), none, none, none]) (le_s (le_s (le_s (le_s (le_v rfl (le_v rfl (le_s le_nil))))))) ?_
            exact ih hv1 h
        refine br_sw h (fun e4 h => ?_) (fun e4 h => ?_)
        · rcases e4 with e4 | e4 | e4 | e4
          · refine pu_sw (v := 38) (tg := 148) e4 rfl rfl rfl ?_
            refine pmSeg_U (pc' := 153) (ls' := [some (.ref 13), some (.ref v1), some (.int v2), some (.int v3), some (.int (σ (v1 + 1) v3.toNatClampNeg)), some (.int (σ (v1 + 2) v3.toNatClampNeg)), none]) (st' := [.int (σ (v1 + 2) v3.toNatClampNeg), .int (σ (v1 + 1) v3.toNatClampNeg), .ref 13]) 3 rfl ?_
            obtain ⟨q153, hq153, h⟩ := bd_in h
            refine pmU_C (av := [.ref 13, .int (σ (v1 + 1) v3.toNatClampNeg), .int (σ (v1 + 2) v3.toNatClampNeg)]) (rest := []) rfl rfl rfl rfl rfl (L_Ju_branch (d + 0) hq153) ?_
            refine pmSeg_U (pc' := 12) (ls' := [some (.ref 13), some (.ref v1), some (.int v2), some (.int (v3 + 1)), some (.int (σ (v1 + 1) v3.toNatClampNeg)), some (.int (σ (v1 + 2) v3.toNatClampNeg)), none]) (st' := []) 3 rfl ?_
            refine pmU_le (a := [some (.ref 13), some (.ref v1), some (.int v2), some (.int (v3 + 1)), none, none, none]) (le_s (le_s (le_s (le_s (le_v rfl (le_v rfl (le_s le_nil))))))) ?_
            exact ih hv1 h
          · refine pu_sw (v := 58) (tg := 148) e4 rfl rfl rfl ?_
            refine pmSeg_U (pc' := 153) (ls' := [some (.ref 13), some (.ref v1), some (.int v2), some (.int v3), some (.int (σ (v1 + 1) v3.toNatClampNeg)), some (.int (σ (v1 + 2) v3.toNatClampNeg)), none]) (st' := [.int (σ (v1 + 2) v3.toNatClampNeg), .int (σ (v1 + 1) v3.toNatClampNeg), .ref 13]) 3 rfl ?_
            obtain ⟨q153, hq153, h⟩ := bd_in h
            refine pmU_C (av := [.ref 13, .int (σ (v1 + 1) v3.toNatClampNeg), .int (σ (v1 + 2) v3.toNatClampNeg)]) (rest := []) rfl rfl rfl rfl rfl (L_Ju_branch (d + 0) hq153) ?_
            refine pmSeg_U (pc' := 12) (ls' := [some (.ref 13), some (.ref v1), some (.int v2), some (.int (v3 + 1)), some (.int (σ (v1 + 1) v3.toNatClampNeg)), some (.int (σ (v1 + 2) v3.toNatClampNeg)), none]) (st' := []) 3 rfl ?_
            refine pmU_le (a := [some (.ref 13), some (.ref v1), some (.int v2), some (.int (v3 + 1)), none, none, none]) (le_s (le_s (le_s (le_s (le_v rfl (le_v rfl (le_s le_nil))))))) ?_
            exact ih hv1 h
          · refine pu_sw (v := 91) (tg := 148) e4 rfl rfl rfl ?_
            refine pmSeg_U (pc' := 153) (ls' := [some (.ref 13), some (.ref v1), some (.int v2), some (.int v3), some (.int (σ (v1 + 1) v3.toNatClampNeg)), some (.int (σ (v1 + 2) v3.toNatClampNeg)), none]) (st' := [.int (σ (v1 + 2) v3.toNatClampNeg), .int (σ (v1 + 1) v3.toNatClampNeg), .ref 13]) 3 rfl ?_
            obtain ⟨q153, hq153, h⟩ := bd_in h
            refine pmU_C (av := [.ref 13, .int (σ (v1 + 1) v3.toNatClampNeg), .int (σ (v1 + 2) v3.toNatClampNeg)]) (rest := []) rfl rfl rfl rfl rfl (L_Ju_branch (d + 0) hq153) ?_
            refine pmSeg_U (pc' := 12) (ls' := [some (.ref 13), some (.ref v1), some (.int v2), some (.int (v3 + 1)), some (.int (σ (v1 + 1) v3.toNatClampNeg)), some (.int (σ (v1 + 2) v3.toNatClampNeg)), none]) (st' := []) 3 rfl ?_
            refine pmU_le (a := [some (.ref 13), some (.ref v1), some (.int v2), some (.int (v3 + 1)), none, none, none]) (le_s (le_s (le_s (le_s (le_v rfl (le_v rfl (le_s le_nil))))))) ?_
            exact ih hv1 h
          · refine pu_sw (v := 124) (tg := 148) e4 rfl rfl rfl ?_
            refine pmSeg_U (pc' := 153) (ls' := [some (.ref 13), some (.ref v1), some (.int v2), some (.int v3), some (.int (σ (v1 + 1) v3.toNatClampNeg)), some (.int (σ (v1 + 2) v3.toNatClampNeg)), none]) (st' := [.int (σ (v1 + 2) v3.toNatClampNeg), .int (σ (v1 + 1) v3.toNatClampNeg), .ref 13]) 3 rfl ?_
            obtain ⟨q153, hq153, h⟩ := bd_in h
            refine pmU_C (av := [.ref 13, .int (σ (v1 + 1) v3.toNatClampNeg), .int (σ (v1 + 2) v3.toNatClampNeg)]) (rest := []) rfl rfl rfl rfl rfl (L_Ju_branch (d + 0) hq153) ?_
            refine pmSeg_U (pc' := 12) (ls' := [some (.ref 13), some (.ref v1), some (.int v2), some (.int (v3 + 1)), some (.int (σ (v1 + 1) v3.toNatClampNeg)), some (.int (σ (v1 + 2) v3.toNatClampNeg)), none]) (st' := []) 3 rfl ?_
            refine pmU_le (a := [some (.ref 13), some (.ref v1), some (.int v2), some (.int (v3 + 1)), none, none, none]) (le_s (le_s (le_s (le_s (le_v rfl (le_v rfl (le_s le_nil))))))) ?_
            exact ih hv1 h
        refine br_sw h (fun e5 h => ?_) (fun e5 h => ?_)
        · refine pu_sw (v := 63) (tg := 168) e5 rfl rfl rfl ?_
          refine pmSeg_U (pc' := 169) (ls' := [some (.ref 13), some (.ref v1), some (.int v2), some (.int v3), some (.int (σ (v1 + 1) v3.toNatClampNeg)), some (.int (σ (v1 + 2) v3.toNatClampNeg)), none]) (st' := [.ref 13]) 1 rfl ?_
          obtain ⟨q169, hq169, h⟩ := bd_in h
          refine pmU_C (av := [.ref 13]) (rest := []) rfl rfl rfl rfl rfl (L_Ju_pull (d + 1) hq169) ?_
          refine pmSeg_U (pc' := 172) (ls' := [some (.ref 13), some (.ref v1), some (.int v2), some (.int v3), some (.int (σ (v1 + 1) v3.toNatClampNeg)), some (.int (σ (v1 + 2) v3.toNatClampNeg)), none]) (st' := [.int q169.1]) 0 rfl ?_
          refine pu_ifP (tg := 205) h rfl rfl rfl (fun h => ?_) (fun h => ?_)
          · refine pmSeg_U (pc' := 12) (ls' := [some (.ref 13), some (.ref v1), some (.int v2), some (.int (v3 + 1)), some (.int (σ (v1 + 1) v3.toNatClampNeg)), some (.int (σ (v1 + 2) v3.toNatClampNeg)), none]) (st' := []) 2 rfl ?_
            refine pmU_le (a := [some (.ref 13), some (.ref v1), some (.int v2), some (.int (v3 + 1)), none, none, none]) (le_s (le_s (le_s (le_s (le_v rfl (le_v rfl (le_s le_nil))))))) ?_
            exact ih hv1 h
          · refine pmSeg_U (pc' := 176) (ls' := [some (.ref 13), some (.ref v1), some (.int v2), some (.int v3), some (.int (σ (v1 + 1) v3.toNatClampNeg)), some (.int (σ (v1 + 2) v3.toNatClampNeg)), none]) (st' := [.int 0]) 1 rfl ?_
            cases h
            exact pmU_T rfl rfl rfl rfl rfl rfl
        refine pu_lswD (tg := 177) rfl rfl (ls_c (lv_neT (fun z => e3 (Or.inl z)) rfl) (ls_c (lv_neT (fun z => e3 (Or.inr (Or.inl z))) rfl) (ls_c (lv_neT (fun z => e4 (Or.inl z)) rfl) (ls_c (lv_neT (fun z => e3 (Or.inr (Or.inr (Or.inl z)))) rfl) (ls_c (lv_neT (fun z => e3 (Or.inr (Or.inr (Or.inr (Or.inl z))))) rfl) (ls_c (lv_neT (fun z => e4 (Or.inr (Or.inl z))) rfl) (ls_c (lv_neT (fun z => e3 (Or.inr (Or.inr (Or.inr (Or.inr (Or.inl z)))))) rfl) (ls_c (lv_neT (fun z => e3 (Or.inr (Or.inr (Or.inr (Or.inr (Or.inr (z))))))) rfl) (ls_c (lv_neT e5 rfl) (ls_c (lv_neT (fun z => e4 (Or.inr (Or.inr (Or.inl z)))) rfl) (ls_c (lv_neT (fun z => e4 (Or.inr (Or.inr (Or.inr (z))))) rfl) ls_n))))))))))) rfl ?_
        refine pmSeg_U (pc' := 186) (ls' := [some (.ref 13), some (.ref v1), some (.int v2), some (.int v3), some (.int (σ (v1 + 1) v3.toNatClampNeg)), some (.int (σ (v1 + 2) v3.toNatClampNeg)), none]) (st' := [.int v2, .int (σ (v1 + 2) v3.toNatClampNeg), .int (σ (v1 + 1) v3.toNatClampNeg), .ref 1]) 5 rfl ?_
        obtain ⟨q186, hq186, h⟩ := bd_in h
        refine pmU_C (av := [.ref 1, .int (σ (v1 + 1) v3.toNatClampNeg), .int (σ (v1 + 2) v3.toNatClampNeg), .int v2]) (rest := []) rfl rfl rfl rfl rfl (L_Wo_valueOf (d + 0) hq186) ?_
        refine pmSeg_U (pc' := 194) (ls' := [some (.ref 13), some (.ref v1), some (.int v2), some (.int v3), some (.int (σ (v1 + 1) v3.toNatClampNeg)), some (.int (σ (v1 + 2) v3.toNatClampNeg)), some (.int q186)]) (st' := [.int (-1), .int q186]) 3 rfl ?_
        refine pu_icmpP (tg := 199) h rfl rfl rfl (fun h => ?_) (fun h => ?_)
        · refine pmSeg_U (pc' := 202) (ls' := [some (.ref 13), some (.ref v1), some (.int v2), some (.int v3), some (.int (σ (v1 + 1) v3.toNatClampNeg)), some (.int (σ (v1 + 2) v3.toNatClampNeg)), some (.int q186)]) (st' := [.int q186, .ref 13]) 2 rfl ?_
          obtain ⟨q202, hq202, h⟩ := bd_in h
          refine pmU_C (av := [.ref 13, .int q186]) (rest := []) rfl rfl rfl rfl rfl (L_Ju_push (d + 1) hq202) ?_
          refine pmSeg_U (pc' := 12) (ls' := [some (.ref 13), some (.ref v1), some (.int v2), some (.int (v3 + 1)), some (.int (σ (v1 + 1) v3.toNatClampNeg)), some (.int (σ (v1 + 2) v3.toNatClampNeg)), some (.int q186)]) (st' := []) 2 rfl ?_
          refine pmU_le (a := [some (.ref 13), some (.ref v1), some (.int v2), some (.int (v3 + 1)), none, none, none]) (le_s (le_s (le_s (le_s (le_v rfl (le_v rfl (le_v rfl le_nil))))))) ?_
          exact ih hv1 h
        · refine pmSeg_U (pc' := 198) (ls' := [some (.ref 13), some (.ref v1), some (.int v2), some (.int v3), some (.int (σ (v1 + 1) v3.toNatClampNeg)), some (.int (σ (v1 + 2) v3.toNatClampNeg)), some (.int q186)]) (st' := [.int 2]) 1 rfl ?_
          cases h
          exact pmU_T rfl rfl rfl rfl rfl rfl
      · refine pmSeg_U (pc' := 12) (ls' := [some (.ref 13), some (.ref v1), some (.int v2), some (.int (v3 + 1)), none, none, none]) (st' := []) 3 rfl ?_
        exact ih hv1 h
theorem L_Ju_conditions {S : pmS} (d : Nat) {v1 : Nat} {v2 : Int32} {σ τ : Mem} {z : Int32 × Mem} (hv1 : isPo v1) (h : Ju_conditions v1 v2 σ = some z) : pmX S (d + 3) 78 [.ref 13, .ref v1, .int v2] (shH σ τ) (some (.int z.1)) (shH z.2 τ) := by
  unfold Ju_conditions at h
  refine pmU_X rfl ?_
  refine pmSeg_U (pc' := 2) (ls' := [some (.ref 13), some (.ref v1), some (.int v2), none, none, none, none]) (st' := [.int 0, .ref 13]) 2 rfl ?_
  refine pu_put rfl rfl rfl rfl rfl (shp_pX rfl (by decide)) ?_
  refine pmSeg_U (pc' := 7) (ls' := [some (.ref 13), some (.ref v1), some (.int v2), none, none, none, none]) (st' := [.int 0, .ref 13]) 2 rfl ?_
  refine pu_put rfl rfl rfl rfl rfl (shp_pX rfl (by decide)) ?_
  refine pmSeg_U (pc' := 12) (ls' := [some (.ref 13), some (.ref v1), some (.int v2), some (.int 0), none, none, none]) (st' := []) 2 rfl ?_
  exact L_Ju_conditions_b12 d FU hv1 h
theorem L_Ju_surveyPair_b148 {S : pmS} (d : Nat)    : ∀ (n0 : Nat) {v1 : Nat} {v2 : Int32} {v3 : Int32} {v4 : Int32} {v5 : Int32} {v6 : Int32} {σ τ : Mem} {z : Mem}, isPo v1 → Ju_surveyPair_b148 n0 v1 v2 v3 v4 v5 v6 σ = some z → pmU S (d + 3) 77 148 [none, some (.ref v1), some (.int v2), some (.int v3), some (.int v4), some (.int v5), some (.int v6), none, none] [] (shH σ τ) none (shH z τ) := by
  intro n0
  induction n0 with
  | zero =>
    intro v1 v2 v3 v4 v5 v6 σ τ z hv1 h
    unfold Ju_surveyPair_b148 at h
    cases h
  | succ n1 ih =>
    intro v1 v2 v3 v4 v5 v6 σ τ z hv1 h
    unfold Ju_surveyPair_b148 at h
    refine pmSeg_U (pc' := 151) (ls' := [none, some (.ref v1), some (.int v2), some (.int v3), some (.int v4), some (.int v5), some (.int v6), none, none]) (st' := [.int 4, .int v6]) 2 rfl ?_
    refine pu_icmpP (tg := 204) h rfl rfl rfl (fun h => ?_) (fun h => ?_)
    · refine pmSeg_U (pc' := 204) (ls' := [none, some (.ref v1), some (.int v2), some (.int v3), some (.int v4), some (.int v5), some (.int v6), none, none]) (st' := []) 0 rfl ?_
      cases h
      exact pmU_T rfl rfl rfl rfl rfl rfl
    · refine pmSeg_U (pc' := 155) (ls' := [none, some (.ref v1), some (.int v2), some (.int v3), some (.int v4), some (.int v5), some (.int v6), none, none]) (st' := [.ref v1]) 1 rfl ?_
      refine pu_get rfl rfl (Po_k hv1) (shp_iX (Po_f5 hv1) (Po_lt hv1)) ?_
      refine pmSeg_U (pc' := 161) (ls' := [none, some (.ref v1), some (.int v2), some (.int v3), some (.int v4), some (.int v5), some (.int v6), none, none]) (st' := [.int 0, .int v6, .int (σ v1 5)]) 2 rfl ?_
      refine pmU_C (av := [.int (σ v1 5), .int v6, .int 0]) (rest := []) rfl rfl rfl rfl rfl (L_Ju_isInScope (d + 1)) ?_
      refine pmSeg_U (pc' := 164) (ls' := [none, some (.ref v1), some (.int v2), some (.int v3), some (.int v4), some (.int v5), some (.int v6), none, none]) (st' := [.int (Ju_isInScope (σ v1 5) v6 0)]) 0 rfl ?_
      refine pu_ifP (tg := 198) h rfl rfl rfl (fun h => ?_) (fun h => ?_)
      · refine pmSeg_U (pc' := 148) (ls' := [none, some (.ref v1), some (.int v2), some (.int v3), some (.int v4), some (.int v5), some (.int (v6 + 1)), none, none]) (st' := []) 2 rfl ?_
        exact ih hv1 h
      · refine pmSeg_U (pc' := 181) (ls' := [none, some (.ref v1), some (.int v2), some (.int v3), some (.int v4), some (.int v5), some (.int v6), some (.int (((v2 * 16) + (v6 * 4)) + v3)), none]) (st' := [.ref v1]) 11 rfl ?_
        refine pu_get rfl rfl (Po_k hv1) (shp_R (Po_f10 hv1)) ?_
        obtain ⟨g1, h⟩ := gd_in h
        refine pmSeg_U (pc' := 188) (ls' := [none, some (.ref v1), some (.int v2), some (.int v3), some (.int v4), some (.int v5), some (.int v6), some (.int (((v2 * 16) + (v6 * 4)) + v3)), none]) (st' := [.int v4, .int (((v2 * 16) + (v6 * 4)) + v3), .ref (v1 + 3)]) 2 rfl ?_
        refine pu_iast rfl (Po_a3 hv1).1 g1 (shp_pX (fx_A (Po_a3 hv1)) (Po_a3 hv1).2) ?_
        refine pmSeg_U (pc' := 190) (ls' := [none, some (.ref v1), some (.int v2), some (.int v3), some (.int v4), some (.int v5), some (.int v6), some (.int (((v2 * 16) + (v6 * 4)) + v3)), none]) (st' := [.ref v1]) 1 rfl ?_
        refine pu_get rfl rfl (Po_k hv1) (shp_R (Po_f11 hv1)) ?_
        obtain ⟨g2, h⟩ := gd_in h
        refine pmSeg_U (pc' := 197) (ls' := [none, some (.ref v1), some (.int v2), some (.int v3), some (.int v4), some (.int v5), some (.int v6), some (.int (((v2 * 16) + (v6 * 4)) + v3)), none]) (st' := [.int v5, .int (((v2 * 16) + (v6 * 4)) + v3), .ref (v1 + 4)]) 2 rfl ?_
        refine pu_iast rfl (Po_a4 hv1).1 g2 (shp_pX (fx_A (Po_a4 hv1)) (Po_a4 hv1).2) ?_
        refine pmSeg_U (pc' := 148) (ls' := [none, some (.ref v1), some (.int v2), some (.int v3), some (.int v4), some (.int v5), some (.int (v6 + 1)), some (.int (((v2 * 16) + (v6 * 4)) + v3)), none]) (st' := []) 2 rfl ?_
        refine pmU_le (a := [none, some (.ref v1), some (.int v2), some (.int v3), some (.int v4), some (.int v5), some (.int (v6 + 1)), none, none]) (le_s (le_s (le_s (le_s (le_s (le_s (le_s (le_v rfl (le_s le_nil))))))))) ?_
        exact ih hv1 h
theorem L_Ju_surveyPair_b113 {S : pmS} (d : Nat)   {k9 : Nat → Int32 → Int32 → Int32 → Int32 → Int32 → Mem → Option Mem} (Hk9 : ∀ {v1 : Nat} {v2 : Int32} {v3 : Int32} {v4 : Int32} {v5 : Int32} {v6 : Int32} {σ τ : Mem} {z : Mem}, isPo v1 → k9 v1 v2 v3 v4 v5 v6 σ = some z → pmU S (d + 3) 77 9 [some (.ref 13), some (.ref v1), some (.int v2), some (.int v3), some (.int v4), some (.int v5), some (.int v6), none, none] [] (shH σ τ) none (shH z τ)) {v1 : Nat} {v2 : Int32} {v3 : Int32} {v5 : Int32} {v6 : Int32} {v7 : Int32} {s0 : Int32} {s1 : Int32} {σ τ : Mem} {z : Mem} (hv1 : isPo v1) (h : Ju_surveyPair_b113 k9 v1 v2 v3 v5 v6 v7 s0 s1 σ = some z) : pmU S (d + 3) 77 113 [some (.ref 13), some (.ref v1), some (.int v2), some (.int v3), none, some (.int v5), some (.int v6), some (.int v7), none] [.int s1, .int s0] (shH σ τ) none (shH z τ) := by
  unfold Ju_surveyPair_b113 at h
  refine pmSeg_U (pc' := 122) (ls' := [some (.ref 13), some (.ref v1), some (.int v2), some (.int v3), some (.int (s0 ||| s1)), some (.int v5), some (.int v6), some (.int v7), none]) (st' := [.int v7, .int v5, .int v5]) 5 rfl ?_
  refine pmU_C (av := [.int v5, .int v7]) (rest := [.int v5]) rfl rfl rfl rfl rfl (L_Ps_hasBit (d + 2)) ?_
  refine pmSeg_U (pc' := 125) (ls' := [some (.ref 13), some (.ref v1), some (.int v2), some (.int v3), some (.int (s0 ||| s1)), some (.int v5), some (.int v6), some (.int v7), none]) (st' := [.int (Ps_hasBit v5 v7), .int v5]) 0 rfl ?_
  refine pu_ifP (tg := 135) h rfl rfl rfl (fun h => ?_) (fun h => ?_)
  · refine pmSeg_U (pc' := 9) (ls' := [some (.ref 13), some (.ref v1), some (.int v2), some (.int v3), some (.int (s0 ||| s1)), some (.int (v5 ||| 0)), some (.int (v6 + 1)), some (.int v7), none]) (st' := []) 5 rfl ?_
    refine pmU_le (a := [some (.ref 13), some (.ref v1), some (.int v2), some (.int v3), some (.int (s0 ||| s1)), some (.int (v5 ||| 0)), some (.int (v6 + 1)), none, none]) (le_s (le_s (le_s (le_s (le_s (le_s (le_s (le_v rfl (le_s le_nil))))))))) ?_
    exact Hk9 hv1 h
  · refine pmSeg_U (pc' := 9) (ls' := [some (.ref 13), some (.ref v1), some (.int v2), some (.int v3), some (.int (s0 ||| s1)), some (.int (v5 ||| (1 <<< (v6 &&& 31)))), some (.int (v6 + 1)), some (.int v7), none]) (st' := []) 8 rfl ?_
    refine pmU_le (a := [some (.ref 13), some (.ref v1), some (.int v2), some (.int v3), some (.int (s0 ||| s1)), some (.int (v5 ||| (1 <<< (v6 &&& 31)))), some (.int (v6 + 1)), none, none]) (le_s (le_s (le_s (le_s (le_s (le_s (le_s (le_v rfl (le_s le_nil))))))))) ?_
    exact Hk9 hv1 h
theorem L_Ju_surveyPair_b68 {S : pmS} (d : Nat)   {k9 : Nat → Int32 → Int32 → Int32 → Int32 → Int32 → Mem → Option Mem} (Hk9 : ∀ {v1 : Nat} {v2 : Int32} {v3 : Int32} {v4 : Int32} {v5 : Int32} {v6 : Int32} {σ τ : Mem} {z : Mem}, isPo v1 → k9 v1 v2 v3 v4 v5 v6 σ = some z → pmU S (d + 3) 77 9 [some (.ref 13), some (.ref v1), some (.int v2), some (.int v3), some (.int v4), some (.int v5), some (.int v6), none, none] [] (shH σ τ) none (shH z τ)) {v1 : Nat} {v2 : Int32} {v3 : Int32} {v5 : Int32} {v6 : Int32} {v8 : Int32} {s0 : Int32} {s1 : Int32} {σ τ : Mem} {z : Mem} (hv1 : isPo v1) (h : Ju_surveyPair_b68 k9 v1 v2 v3 v5 v6 v8 s0 s1 σ = some z) : pmU S (d + 3) 77 68 [some (.ref 13), some (.ref v1), some (.int v2), some (.int v3), none, some (.int v5), some (.int v6), none, some (.int v8)] [.int s1, .int s0] (shH σ τ) none (shH z τ) := by
  unfold Ju_surveyPair_b68 at h
  refine pmSeg_U (pc' := 76) (ls' := [some (.ref 13), some (.ref v1), some (.int v2), some (.int v3), some (.int (s0 ||| s1)), some (.int v5), some (.int v6), none, some (.int v8)]) (st' := [.int 2, .int v8, .int v5]) 5 rfl ?_
  refine pu_icmpP (tg := 86) h rfl rfl rfl (fun h => ?_) (fun h => ?_)
  · refine pmSeg_U (pc' := 9) (ls' := [some (.ref 13), some (.ref v1), some (.int v2), some (.int v3), some (.int (s0 ||| s1)), some (.int (v5 ||| 0)), some (.int (v6 + 1)), none, some (.int v8)]) (st' := []) 6 rfl ?_
    refine pmU_le (a := [some (.ref 13), some (.ref v1), some (.int v2), some (.int v3), some (.int (s0 ||| s1)), some (.int (v5 ||| 0)), some (.int (v6 + 1)), none, none]) (le_s (le_s (le_s (le_s (le_s (le_s (le_s (le_s (le_v rfl le_nil))))))))) ?_
    exact Hk9 hv1 h
  · refine pmSeg_U (pc' := 9) (ls' := [some (.ref 13), some (.ref v1), some (.int v2), some (.int v3), some (.int (s0 ||| s1)), some (.int (v5 ||| (1 <<< (v6 &&& 31)))), some (.int (v6 + 1)), none, some (.int v8)]) (st' := []) 9 rfl ?_
    refine pmU_le (a := [some (.ref 13), some (.ref v1), some (.int v2), some (.int v3), some (.int (s0 ||| s1)), some (.int (v5 ||| (1 <<< (v6 &&& 31)))), some (.int (v6 + 1)), none, none]) (le_s (le_s (le_s (le_s (le_s (le_s (le_s (le_s (le_v rfl le_nil))))))))) ?_
    exact Hk9 hv1 h
theorem L_Ju_surveyPair_b9 {S : pmS} (d : Nat)    : ∀ (n0 : Nat) {v1 : Nat} {v2 : Int32} {v3 : Int32} {v4 : Int32} {v5 : Int32} {v6 : Int32} {σ τ : Mem} {z : Mem}, isPo v1 → Ju_surveyPair_b9 n0 v1 v2 v3 v4 v5 v6 σ = some z → pmU S (d + 3) 77 9 [some (.ref 13), some (.ref v1), some (.int v2), some (.int v3), some (.int v4), some (.int v5), some (.int v6), none, none] [] (shH σ τ) none (shH z τ) := by
  intro n0
  induction n0 with
  | zero =>
    intro v1 v2 v3 v4 v5 v6 σ τ z hv1 h
    unfold Ju_surveyPair_b9 at h
    cases h
  | succ n1 ih =>
    intro v1 v2 v3 v4 v5 v6 σ τ z hv1 h
    unfold Ju_surveyPair_b9 at h
    refine pmSeg_U (pc' := 13) (ls' := [some (.ref 13), some (.ref v1), some (.int v2), some (.int v3), some (.int v4), some (.int v5), some (.int v6), none, none]) (st' := [.int 32, .int v6]) 2 rfl ?_
    refine pu_icmpP (tg := 145) h rfl rfl rfl (fun h => ?_) (fun h => ?_)
    · refine pmSeg_U (pc' := 148) (ls' := [some (.ref 13), some (.ref v1), some (.int v2), some (.int v3), some (.int v4), some (.int v5), some (.int 0), none, none]) (st' := []) 2 rfl ?_
      refine pmU_le (a := [none, some (.ref v1), some (.int v2), some (.int v3), some (.int v4), some (.int v5), some (.int 0), none, none]) (le_v rfl (le_s (le_s (le_s (le_s (le_s (le_s (le_s (le_s le_nil))))))))) ?_
      exact L_Ju_surveyPair_b148 d FU hv1 h
    · refine pmSeg_U (pc' := 19) (ls' := [some (.ref 13), some (.ref v1), some (.int v2), some (.int v3), some (.int v4), some (.int v5), some (.int v6), none, none]) (st' := [.ref v1, .int v6]) 2 rfl ?_
      refine pu_get rfl rfl (Po_k hv1) (shp_iX (Po_f3 hv1) (Po_lt hv1)) ?_
      refine pmSeg_U (pc' := 29) (ls' := [some (.ref 13), some (.ref v1), some (.int v2), some (.int v3), some (.int v4), some (.int v5), some (.int v6), some (.int (v6 &&& (σ v1 3))), none]) (st' := [.int v6, .int (v6 &&& (σ v1 3))]) 4 rfl ?_
      refine pu_icmpP (tg := 93) h rfl rfl rfl (fun h => ?_) (fun h => ?_)
      · refine pmSeg_U (pc' := 99) (ls' := [some (.ref 13), some (.ref v1), some (.int v2), some (.int v3), some (.int v4), some (.int v5), some (.int v6), some (.int (v6 &&& (σ v1 3))), none]) (st' := [.int (v6 &&& (σ v1 3)), .int v4, .int v4]) 3 rfl ?_
        refine pmU_C (av := [.int v4, .int (v6 &&& (σ v1 3))]) (rest := [.int v4]) rfl rfl rfl rfl rfl (L_Ps_hasBit (d + 2)) ?_
        refine pmSeg_U (pc' := 102) (ls' := [some (.ref 13), some (.ref v1), some (.int v2), some (.int v3), some (.int v4), some (.int v5), some (.int v6), some (.int (v6 &&& (σ v1 3))), none]) (st' := [.int (Ps_hasBit v4 (v6 &&& (σ v1 3))), .int v4]) 0 rfl ?_
        refine pu_ifP (tg := 112) h rfl rfl rfl (fun h => ?_) (fun h => ?_)
        · refine pmSeg_U (pc' := 113) (ls' := [some (.ref 13), some (.ref v1), some (.int v2), some (.int v3), some (.int v4), some (.int v5), some (.int v6), some (.int (v6 &&& (σ v1 3))), none]) (st' := [.int 0, .int v4]) 1 rfl ?_
          refine pmU_le (a := [some (.ref 13), some (.ref v1), some (.int v2), some (.int v3), none, some (.int v5), some (.int v6), some (.int (v6 &&& (σ v1 3))), none]) (le_s (le_s (le_s (le_s (le_v rfl (le_s (le_s (le_s (le_s le_nil))))))))) ?_
          exact L_Ju_surveyPair_b113 d ih hv1 h
        · refine pmSeg_U (pc' := 113) (ls' := [some (.ref 13), some (.ref v1), some (.int v2), some (.int v3), some (.int v4), some (.int v5), some (.int v6), some (.int (v6 &&& (σ v1 3))), none]) (st' := [.int (1 <<< (v6 &&& 31)), .int v4]) 4 rfl ?_
          refine pmU_le (a := [some (.ref 13), some (.ref v1), some (.int v2), some (.int v3), none, some (.int v5), some (.int v6), some (.int (v6 &&& (σ v1 3))), none]) (le_s (le_s (le_s (le_s (le_v rfl (le_s (le_s (le_s (le_s le_nil))))))))) ?_
          exact L_Ju_surveyPair_b113 d ih hv1 h
      · refine pmSeg_U (pc' := 47) (ls' := [some (.ref 13), some (.ref v1), some (.int v2), some (.int v3), some (.int v4), some (.int v5), some (.int v6), some (.int (v6 &&& (σ v1 3))), none]) (st' := [.int (((v2 * 512) + (v3 * 32)) + v6), .ref v1, .ref 13]) 11 rfl ?_
        obtain ⟨q47, hq47, h⟩ := bd_in h
        refine pmU_C (av := [.ref 13, .ref v1, .int (((v2 * 512) + (v3 * 32)) + v6)]) (rest := []) rfl rfl rfl rfl rfl (L_Ju_conditions (d + 0) hv1 hq47) ?_
        refine pmSeg_U (pc' := 57) (ls' := [some (.ref 13), some (.ref v1), some (.int v2), some (.int v3), some (.int v4), some (.int v5), some (.int v6), some (.int (v6 &&& (σ v1 3))), some (.int q47.1)]) (st' := [.int 1, .int q47.1, .int v4]) 4 rfl ?_
        refine pu_icmpP (tg := 67) h rfl rfl rfl (fun h => ?_) (fun h => ?_)
        · refine pmSeg_U (pc' := 68) (ls' := [some (.ref 13), some (.ref v1), some (.int v2), some (.int v3), some (.int v4), some (.int v5), some (.int v6), some (.int (v6 &&& (σ v1 3))), some (.int q47.1)]) (st' := [.int 0, .int v4]) 1 rfl ?_
          refine pmU_le (a := [some (.ref 13), some (.ref v1), some (.int v2), some (.int v3), none, some (.int v5), some (.int v6), none, some (.int q47.1)]) (le_s (le_s (le_s (le_s (le_v rfl (le_s (le_s (le_v rfl (le_s le_nil))))))))) ?_
          exact L_Ju_surveyPair_b68 d ih hv1 h
        · refine pmSeg_U (pc' := 68) (ls' := [some (.ref 13), some (.ref v1), some (.int v2), some (.int v3), some (.int v4), some (.int v5), some (.int v6), some (.int (v6 &&& (σ v1 3))), some (.int q47.1)]) (st' := [.int (1 <<< (v6 &&& 31)), .int v4]) 4 rfl ?_
          refine pmU_le (a := [some (.ref 13), some (.ref v1), some (.int v2), some (.int v3), none, some (.int v5), some (.int v6), none, some (.int q47.1)]) (le_s (le_s (le_s (le_s (le_v rfl (le_s (le_s (le_v rfl (le_s le_nil))))))))) ?_
          exact L_Ju_surveyPair_b68 d ih hv1 h
theorem L_Ju_surveyPair {S : pmS} (d : Nat) {v1 : Nat} {v2 : Int32} {v3 : Int32} {σ τ : Mem} {z : Mem} (hv1 : isPo v1) (h : Ju_surveyPair v1 v2 v3 σ = some z) : pmX S (d + 4) 77 [.ref 13, .ref v1, .int v2, .int v3] (shH σ τ) none (shH z τ) := by
  unfold Ju_surveyPair at h
  refine pmU_X rfl ?_
  refine pmSeg_U (pc' := 9) (ls' := [some (.ref 13), some (.ref v1), some (.int v2), some (.int v3), some (.int 0), some (.int 0), some (.int 0), none, none]) (st' := []) 6 rfl ?_
  exact L_Ju_surveyPair_b9 d FU hv1 h
theorem L_Ju_survey_b63 {S : pmS} (d : Nat)   {k56 : Nat → Int32 → Mem → Option Mem} (Hk56 : ∀ {v1 : Nat} {v2 : Int32} {σ τ : Mem} {z : Mem}, isPo v1 → k56 v1 v2 σ = some z → pmU S (d + 4) 74 56 [some (.ref 13), some (.ref v1), some (.int v2), none] [] (shH σ τ) none (shH z τ)) : ∀ (n0 : Nat) {v1 : Nat} {v2 : Int32} {v3 : Int32} {σ τ : Mem} {z : Mem}, isPo v1 → Ju_survey_b63 k56 n0 v1 v2 v3 σ = some z → pmU S (d + 4) 74 63 [some (.ref 13), some (.ref v1), some (.int v2), some (.int v3)] [] (shH σ τ) none (shH z τ) := by
  intro n0
  induction n0 with
  | zero =>
    intro v1 v2 v3 σ τ z hv1 h
    unfold Ju_survey_b63 at h
    cases h
  | succ n1 ih =>
    intro v1 v2 v3 σ τ z hv1 h
    unfold Ju_survey_b63 at h
    refine pmSeg_U (pc' := 65) (ls' := [some (.ref 13), some (.ref v1), some (.int v2), some (.int v3)]) (st' := [.int 4, .int v3]) 2 rfl ?_
    refine pu_icmpP (tg := 91) h rfl rfl rfl (fun h => ?_) (fun h => ?_)
    · refine pmSeg_U (pc' := 56) (ls' := [some (.ref 13), some (.ref v1), some (.int (v2 + 1)), some (.int v3)]) (st' := []) 2 rfl ?_
      refine pmU_le (a := [some (.ref 13), some (.ref v1), some (.int (v2 + 1)), none]) (le_s (le_s (le_s (le_v rfl le_nil)))) ?_
      exact Hk56 hv1 h
    · refine pmSeg_U (pc' := 72) (ls' := [some (.ref 13), some (.ref v1), some (.int v2), some (.int v3)]) (st' := [.int v3, .int v2, .ref v1, .ref 13]) 4 rfl ?_
      obtain ⟨q72, hq72, h⟩ := bd_in h
      refine pmU_C (av := [.ref 13, .ref v1, .int v2, .int v3]) (rest := []) rfl rfl rfl rfl rfl (L_Ju_covers (d + 1) hv1 hq72) ?_
      refine pmSeg_U (pc' := 75) (ls' := [some (.ref 13), some (.ref v1), some (.int v2), some (.int v3)]) (st' := [.int q72]) 0 rfl ?_
      refine pu_ifP (tg := 85) h rfl rfl rfl (fun h => ?_) (fun h => ?_)
      · refine pmSeg_U (pc' := 63) (ls' := [some (.ref 13), some (.ref v1), some (.int v2), some (.int (v3 + 1))]) (st' := []) 2 rfl ?_
        exact ih hv1 h
      · refine pmSeg_U (pc' := 82) (ls' := [some (.ref 13), some (.ref v1), some (.int v2), some (.int v3)]) (st' := [.int v3, .int v2, .ref v1, .ref 13]) 4 rfl ?_
        obtain ⟨q82, hq82, h⟩ := bd_in h
        refine pmU_C (av := [.ref 13, .ref v1, .int v2, .int v3]) (rest := []) rfl rfl rfl rfl rfl (L_Ju_surveyPair (d + 0) hv1 hq82) ?_
        refine pmSeg_U (pc' := 63) (ls' := [some (.ref 13), some (.ref v1), some (.int v2), some (.int (v3 + 1))]) (st' := []) 2 rfl ?_
        exact ih hv1 h
theorem L_Ju_survey_b56 {S : pmS} (d : Nat)    : ∀ (n0 : Nat) {v1 : Nat} {v2 : Int32} {σ τ : Mem} {z : Mem}, isPo v1 → Ju_survey_b56 n0 v1 v2 σ = some z → pmU S (d + 4) 74 56 [some (.ref 13), some (.ref v1), some (.int v2), none] [] (shH σ τ) none (shH z τ) := by
  intro n0
  induction n0 with
  | zero =>
    intro v1 v2 σ τ z hv1 h
    unfold Ju_survey_b56 at h
    cases h
  | succ n1 ih =>
    intro v1 v2 σ τ z hv1 h
    unfold Ju_survey_b56 at h
    refine pmSeg_U (pc' := 58) (ls' := [some (.ref 13), some (.ref v1), some (.int v2), none]) (st' := [.int 4, .int v2]) 2 rfl ?_
    refine pu_icmpP (tg := 97) h rfl rfl rfl (fun h => ?_) (fun h => ?_)
    · refine pmSeg_U (pc' := 97) (ls' := [some (.ref 13), some (.ref v1), some (.int v2), none]) (st' := []) 0 rfl ?_
      cases h
      exact pmU_T rfl rfl rfl rfl rfl rfl
    · refine pmSeg_U (pc' := 63) (ls' := [some (.ref 13), some (.ref v1), some (.int v2), some (.int 0)]) (st' := []) 2 rfl ?_
      exact L_Ju_survey_b63 d ih FU hv1 h
theorem L_Ju_survey_b28 {S : pmS} (d : Nat)    : ∀ (n0 : Nat) {v1 : Nat} {v2 : Int32} {σ τ : Mem} {z : Mem}, isPo v1 → Ju_survey_b28 n0 v1 v2 σ = some z → pmU S (d + 4) 74 28 [some (.ref 13), some (.ref v1), some (.int v2), none] [] (shH σ τ) none (shH z τ) := by
  intro n0
  induction n0 with
  | zero =>
    intro v1 v2 σ τ z hv1 h
    unfold Ju_survey_b28 at h
    cases h
  | succ n1 ih =>
    intro v1 v2 σ τ z hv1 h
    unfold Ju_survey_b28 at h
    refine pmSeg_U (pc' := 31) (ls' := [some (.ref 13), some (.ref v1), some (.int v2), none]) (st' := [.int 64, .int v2]) 2 rfl ?_
    refine pu_icmpP (tg := 54) h rfl rfl rfl (fun h => ?_) (fun h => ?_)
    · refine pmSeg_U (pc' := 56) (ls' := [some (.ref 13), some (.ref v1), some (.int 0), none]) (st' := []) 2 rfl ?_
      exact L_Ju_survey_b56 d FU hv1 h
    · refine pmSeg_U (pc' := 35) (ls' := [some (.ref 13), some (.ref v1), some (.int v2), none]) (st' := [.ref v1]) 1 rfl ?_
      refine pu_get rfl rfl (Po_k hv1) (shp_R (Po_f10 hv1)) ?_
      obtain ⟨g1, h⟩ := gd_in h
      refine pmSeg_U (pc' := 40) (ls' := [some (.ref 13), some (.ref v1), some (.int v2), none]) (st' := [.int 0, .int v2, .ref (v1 + 3)]) 2 rfl ?_
      refine pu_iast rfl (Po_a3 hv1).1 g1 (shp_pX (fx_A (Po_a3 hv1)) (Po_a3 hv1).2) ?_
      refine pmSeg_U (pc' := 42) (ls' := [some (.ref 13), some (.ref v1), some (.int v2), none]) (st' := [.ref v1]) 1 rfl ?_
      refine pu_get rfl rfl (Po_k hv1) (shp_R (Po_f11 hv1)) ?_
      obtain ⟨g2, h⟩ := gd_in h
      refine pmSeg_U (pc' := 47) (ls' := [some (.ref 13), some (.ref v1), some (.int v2), none]) (st' := [.int 0, .int v2, .ref (v1 + 4)]) 2 rfl ?_
      refine pu_iast rfl (Po_a4 hv1).1 g2 (shp_pX (fx_A (Po_a4 hv1)) (Po_a4 hv1).2) ?_
      refine pmSeg_U (pc' := 28) (ls' := [some (.ref 13), some (.ref v1), some (.int (v2 + 1)), none]) (st' := []) 2 rfl ?_
      exact ih hv1 h
theorem L_Ju_survey {S : pmS} (d : Nat) {v1 : Nat} {σ τ : Mem} {z : Mem} (hv1 : isPo v1) (h : Ju_survey v1 σ = some z) : pmX S (d + 5) 74 [.ref 13, .ref v1] (shH σ τ) none (shH z τ) := by
  unfold Ju_survey at h
  refine pmU_X rfl ?_
  refine pmSeg_U (pc' := 1) (ls' := [some (.ref 13), some (.ref v1), none, none]) (st' := [.ref v1]) 1 rfl ?_
  refine pu_get rfl rfl (Po_k hv1) (shp_iX (Po_f12 hv1) (Po_lt hv1)) ?_
  refine pmSeg_U (pc' := 11) (ls' := [some (.ref 13), some (.ref v1), none, none]) (st' := [.int (σ 1 5), .int (σ v1 12)]) 3 rfl ?_
  refine pu_icmpP (tg := 15) h rfl rfl rfl (fun h => ?_) (fun h => ?_)
  · refine pmSeg_U (pc' := 23) (ls' := [some (.ref 13), some (.ref v1), none, none]) (st' := [.int (σ 1 5), .ref v1]) 4 rfl ?_
    refine pu_put rfl rfl (Po_k hv1) rfl rfl (shp_pX (Po_f12 hv1) (Po_lt hv1)) ?_
    refine pmSeg_U (pc' := 28) (ls' := [some (.ref 13), some (.ref v1), some (.int 0), none]) (st' := []) 2 rfl ?_
    exact L_Ju_survey_b28 d FU hv1 h
  · refine pmSeg_U (pc' := 14) (ls' := [some (.ref 13), some (.ref v1), none, none]) (st' := []) 0 rfl ?_
    cases h
    exact pmU_T rfl rfl rfl rfl rfl rfl
theorem K_Se_get {v0 : Nat} {v1 : Int32} {σ : Mem} {z : Nat} (hv0 : isSe v0) (h : Se_get v0 v1 σ = some z) : isPo z := by
  unfold Se_get at h
  first
  | (split at h <;> (cases h; decide))
  | (obtain ⟨_, h⟩ := gd_in h; obtain ⟨g, h⟩ := gd_in h; cases h; exact g)
theorem L_Se_get {S : pmS} (d : Nat) {v0 : Nat} {v1 : Int32} {σ τ : Mem} {z : Nat} (hv0 : isSe v0) (h : Se_get v0 v1 σ = some z) : pmX S (d + 1) 73 [.ref v0, .int v1] (shH σ τ) (some (.ref z)) (shH σ τ) := by
  unfold Se_get at h
  refine pmU_X rfl ?_
  refine pmSeg_U (pc' := 1) (ls' := [some (.ref v0), some (.int v1)]) (st' := [.ref v0]) 1 rfl ?_
  refine pu_get rfl rfl (Se_k hv0) (shp_R (Se_f0 hv0)) ?_
  obtain ⟨g1, h⟩ := gd_in h
  obtain ⟨g2, h⟩ := gd_in h
  refine pmSeg_U (pc' := 5) (ls' := [some (.ref v0), some (.int v1)]) (st' := [.int v1, .ref (v0 + 1)]) 1 rfl ?_
  refine pu_aald rfl (Se_a1 hv0).1 g1 (shp_mX (fx_P (Se_a1 hv0)) (Se_a1 hv0).2 (po_nn g2)) ?_
  refine pmSeg_U (pc' := 6) (ls' := [some (.ref v0), some (.int v1)]) (st' := [.ref (ix (σ (v0 + 1) v1.toNatClampNeg))]) 0 rfl ?_
  cases h
  exact pmU_T rfl rfl rfl rfl rfl rfl
theorem L_Ps_policy {S : pmS} (d : Nat) {v1 : Int32} {v2 : Int32} {v3 : Int32} {σ τ : Mem} {z : Int32 × Mem}  (h : Ps_policy v1 v2 v3 σ = some z) : pmX S (d + 6) 72 [.ref 0, .int v1, .int v2, .int v3] (shH σ τ) (some (.int z.1)) (shH z.2 τ) := by
  unfold Ps_policy at h
  refine pmU_X rfl ?_
  refine pmSeg_U (pc' := 3) (ls' := [some (.ref 0), some (.int v1), some (.int v2), some (.int v3), none]) (st' := [.int v2, .int v1, .ref 0]) 3 rfl ?_
  obtain ⟨q3, hq3, h⟩ := bd_in h
  refine pmU_C (av := [.ref 0, .int v1, .int v2]) (rest := []) rfl rfl rfl rfl rfl (L_Ps_isPolicy (d + 3) hq3) ?_
  refine pmSeg_U (pc' := 6) (ls' := [some (.ref 0), some (.int v1), some (.int v2), some (.int v3), none]) (st' := [.int q3]) 0 rfl ?_
  refine pu_ifP (tg := 12) h rfl rfl rfl (fun h => ?_) (fun h => ?_)
  · refine pmSeg_U (pc' := 14) (ls' := [some (.ref 0), some (.int v1), some (.int v2), some (.int v3), none]) (st' := [.int v1, .ref 0]) 2 rfl ?_
    obtain ⟨q14, hq14, h⟩ := bd_in h
    have K14 := K_Ps_chosen hq14
    refine pmU_C (av := [.ref 0, .int v1]) (rest := []) rfl rfl rfl rfl rfl (L_Ps_chosen (d + 4) hq14) ?_
    refine pmSeg_U (pc' := 18) (ls' := [some (.ref 0), some (.int v1), some (.int v2), some (.int v3), none]) (st' := [.int v2, .ref q14]) 1 rfl ?_
    obtain ⟨q18, hq18, h⟩ := bd_in h
    have K18 := K_Se_get K14 hq18
    refine pmU_C (av := [.ref q14, .int v2]) (rest := []) rfl rfl rfl rfl (pmC_virt rfl rfl rfl (Se_k K14)) (L_Se_get (d + 4) K14 hq18) ?_
    refine pmSeg_U (pc' := 24) (ls' := [some (.ref 0), some (.int v1), some (.int v2), some (.int v3), some (.ref q18)]) (st' := [.int v3]) 2 rfl ?_
    refine br_sw h (fun e1 h => ?_) (fun e1 h => ?_)
    · refine pu_sw (v := 0) (tg := 60) e1 rfl rfl rfl ?_
      refine pmSeg_U (pc' := 62) (ls' := [some (.ref 0), some (.int v1), some (.int v2), some (.int v3), some (.ref q18)]) (st' := [.ref q18]) 1 rfl ?_
      refine pu_get rfl rfl (Po_k K18) (shp_iX (Po_f0 K18) (Po_lt K18)) ?_
      refine pmSeg_U (pc' := 65) (ls' := [some (.ref 0), some (.int v1), some (.int v2), some (.int v3), some (.ref q18)]) (st' := [.int (σ q18 0)]) 0 rfl ?_
      refine pu_ifP (tg := 72) h rfl rfl rfl (fun h => ?_) (fun h => ?_)
      · refine pmSeg_U (pc' := 73) (ls' := [some (.ref 0), some (.int v1), some (.int v2), some (.int v3), some (.ref q18)]) (st' := [.int 0]) 1 rfl ?_
        cases h
        exact pmU_T rfl rfl rfl rfl rfl rfl
      · refine pmSeg_U (pc' := 73) (ls' := [some (.ref 0), some (.int v1), some (.int v2), some (.int v3), some (.ref q18)]) (st' := [.int 1]) 2 rfl ?_
        cases h
        exact pmU_T rfl rfl rfl rfl rfl rfl
    refine br_sw h (fun e2 h => ?_) (fun e2 h => ?_)
    · refine pu_sw (v := 1) (tg := 74) e2 rfl rfl rfl ?_
      refine pmSeg_U (pc' := 76) (ls' := [some (.ref 0), some (.int v1), some (.int v2), some (.int v3), some (.ref q18)]) (st' := [.ref q18]) 1 rfl ?_
      refine pu_get rfl rfl (Po_k K18) (shp_iX (Po_f2 K18) (Po_lt K18)) ?_
      refine pmSeg_U (pc' := 79) (ls' := [some (.ref 0), some (.int v1), some (.int v2), some (.int v3), some (.ref q18)]) (st' := [.int (σ q18 2)]) 0 rfl ?_
      cases h
      exact pmU_T rfl rfl rfl rfl rfl rfl
    refine br_sw h (fun e3 h => ?_) (fun e3 h => ?_)
    · refine pu_sw (v := 2) (tg := 80) e3 rfl rfl rfl ?_
      refine pmSeg_U (pc' := 82) (ls' := [some (.ref 0), some (.int v1), some (.int v2), some (.int v3), some (.ref q18)]) (st' := [.ref q18]) 1 rfl ?_
      refine pu_get rfl rfl (Po_k K18) (shp_iX (Po_f1 K18) (Po_lt K18)) ?_
      refine pmSeg_U (pc' := 85) (ls' := [some (.ref 0), some (.int v1), some (.int v2), some (.int v3), some (.ref q18)]) (st' := [.int (σ q18 1)]) 0 rfl ?_
      refine pu_ifP (tg := 92) h rfl rfl rfl (fun h => ?_) (fun h => ?_)
      · refine pmSeg_U (pc' := 93) (ls' := [some (.ref 0), some (.int v1), some (.int v2), some (.int v3), some (.ref q18)]) (st' := [.int 0]) 1 rfl ?_
        cases h
        exact pmU_T rfl rfl rfl rfl rfl rfl
      · refine pmSeg_U (pc' := 93) (ls' := [some (.ref 0), some (.int v1), some (.int v2), some (.int v3), some (.ref q18)]) (st' := [.int 1]) 2 rfl ?_
        cases h
        exact pmU_T rfl rfl rfl rfl rfl rfl
    refine br_sw h (fun e4 h => ?_) (fun e4 h => ?_)
    · refine pu_sw (v := 3) (tg := 94) e4 rfl rfl rfl ?_
      refine pmSeg_U (pc' := 100) (ls' := [some (.ref 0), some (.int v1), some (.int v2), some (.int v3), some (.ref q18)]) (st' := [.ref q18, .ref 13]) 3 rfl ?_
      obtain ⟨q100, hq100, h⟩ := bd_in h
      refine pmU_C (av := [.ref 13, .ref q18]) (rest := []) rfl rfl rfl rfl rfl (L_Ju_survey (d + 0) K18 hq100) ?_
      refine pmSeg_U (pc' := 105) (ls' := [some (.ref 0), some (.int v1), some (.int v2), some (.int v3), some (.ref q18)]) (st' := [.ref q18]) 1 rfl ?_
      refine pu_get rfl rfl (Po_k K18) (shp_R (Po_f10 K18)) ?_
      refine pmSeg_U (pc' := 108) (ls' := [some (.ref 0), some (.int v1), some (.int v2), some (.int v3), some (.ref q18)]) (st' := [.ref (q18 + 3)]) 0 rfl ?_
      obtain ⟨q108, hq108, h⟩ := bd_in h
      refine pmU_C (av := [.ref (q18 + 3)]) (rest := []) rfl rfl rfl rfl rfl (L_Ps_countBits (d + 3) (Po_a3 K18) hq108) ?_
      refine pmSeg_U (pc' := 111) (ls' := [some (.ref 0), some (.int v1), some (.int v2), some (.int v3), some (.ref q18)]) (st' := [.int q108]) 0 rfl ?_
      cases h
      exact pmU_T rfl rfl rfl rfl rfl rfl
    refine br_sw h (fun e5 h => ?_) (fun e5 h => ?_)
    · refine pu_sw (v := 4) (tg := 112) e5 rfl rfl rfl ?_
      refine pmSeg_U (pc' := 118) (ls' := [some (.ref 0), some (.int v1), some (.int v2), some (.int v3), some (.ref q18)]) (st' := [.ref q18, .ref 13]) 3 rfl ?_
      obtain ⟨q118, hq118, h⟩ := bd_in h
      refine pmU_C (av := [.ref 13, .ref q18]) (rest := []) rfl rfl rfl rfl rfl (L_Ju_survey (d + 0) K18 hq118) ?_
      refine pmSeg_U (pc' := 123) (ls' := [some (.ref 0), some (.int v1), some (.int v2), some (.int v3), some (.ref q18)]) (st' := [.ref q18]) 1 rfl ?_
      refine pu_get rfl rfl (Po_k K18) (shp_R (Po_f11 K18)) ?_
      refine pmSeg_U (pc' := 126) (ls' := [some (.ref 0), some (.int v1), some (.int v2), some (.int v3), some (.ref q18)]) (st' := [.ref (q18 + 4)]) 0 rfl ?_
      obtain ⟨q126, hq126, h⟩ := bd_in h
      refine pmU_C (av := [.ref (q18 + 4)]) (rest := []) rfl rfl rfl rfl rfl (L_Ps_countBits (d + 3) (Po_a4 K18) hq126) ?_
      refine pmSeg_U (pc' := 129) (ls' := [some (.ref 0), some (.int v1), some (.int v2), some (.int v3), some (.ref q18)]) (st' := [.int q126]) 0 rfl ?_
      cases h
      exact pmU_T rfl rfl rfl rfl rfl rfl
    refine pu_tswD (tg := 130) rfl rfl ⟨Or.inr (lv_neT e1 rfl), Or.inr (lv_neT e2 rfl), Or.inr (lv_neT e3 rfl), Or.inr (lv_neT e4 rfl), Or.inr (lv_neT e5 rfl), trivial⟩ rfl ?_
    refine pmSeg_U (pc' := 132) (ls' := [some (.ref 0), some (.int v1), some (.int v2), some (.int v3), some (.ref q18)]) (st' := [.int (-2)]) 1 rfl ?_
    cases h
    exact pmU_T rfl rfl rfl rfl rfl rfl
  · refine pmSeg_U (pc' := 11) (ls' := [some (.ref 0), some (.int v1), some (.int v2), some (.int v3), none]) (st' := [.int (-2)]) 1 rfl ?_
    cases h
    exact pmU_T rfl rfl rfl rfl rfl rfl
theorem L_Ps_deedOf' {S : pmS} (d : Nat) {v0 : Int32} {h0 : pmH} {z : Int32} (h : Ps_deedOf v0 = z) : pmX S (d + 1) 91 [.int v0] h0 (some (.int z)) h0 := by
  unfold Ps_deedOf at h
  refine pmU_X rfl ?_
  refine pmSeg_U (pc' := 6) (ls' := [some (.int v0)]) (st' := [.int ((v0 >>> (7 &&& 31)) &&& 3)]) 5 rfl ?_
  cases h
  exact pmU_T rfl rfl rfl rfl rfl rfl
theorem L_Ps_deedOf {S : pmS} (d : Nat) {v0 : Int32} {h0 : pmH} : pmX S (d + 1) 91 [.int v0] h0 (some (.int (Ps_deedOf v0))) h0 := L_Ps_deedOf' d rfl
theorem L_Ju_verdict_b36 {S : pmS} (d : Nat)    {v1 : Nat} {v2 : Int32} {s0 : Int32} {σ τ : Mem} {z : Int32 × Mem} (hv1 : isPo v1) (h : Ju_verdict_b36 v1 v2 s0 σ = some z) : pmU S (d + 3) 90 36 [some (.ref 13), some (.ref v1), some (.int v2), none] [.int s0] (shH σ τ) (some (.int z.1)) (shH z.2 τ) := by
  unfold Ju_verdict_b36 at h
  refine pmSeg_U (pc' := 38) (ls' := [some (.ref 13), some (.ref v1), some (.int v2), some (.int s0)]) (st' := [.int s0]) 2 rfl ?_
  refine pu_ifP (tg := 50) h rfl rfl rfl (fun h => ?_) (fun h => ?_)
  · refine pmSeg_U (pc' := 51) (ls' := [some (.ref 13), some (.ref v1), some (.int v2), some (.int s0)]) (st' := [.int 0]) 1 rfl ?_
    cases h
    exact pmU_T rfl rfl rfl rfl rfl rfl
  · refine pmSeg_U (pc' := 44) (ls' := [some (.ref 13), some (.ref v1), some (.int v2), some (.int s0)]) (st' := [.int v2, .ref v1, .ref 13]) 3 rfl ?_
    obtain ⟨q44, hq44, h⟩ := bd_in h
    refine pmU_C (av := [.ref 13, .ref v1, .int v2]) (rest := []) rfl rfl rfl rfl rfl (L_Ju_conditions (d + 0) hv1 hq44) ?_
    refine pmSeg_U (pc' := 51) (ls' := [some (.ref 13), some (.ref v1), some (.int v2), some (.int s0)]) (st' := [.int q44.1]) 1 rfl ?_
    cases h
    exact pmU_T rfl rfl rfl rfl rfl rfl
theorem L_Ju_verdict_b35 {S : pmS} (d : Nat)    {v1 : Nat} {v2 : Int32} {σ τ : Mem} {z : Int32 × Mem} (hv1 : isPo v1) (h : Ju_verdict_b35 v1 v2 σ = some z) : pmU S (d + 3) 90 35 [some (.ref 13), some (.ref v1), some (.int v2), none] [] (shH σ τ) (some (.int z.1)) (shH z.2 τ) := by
  unfold Ju_verdict_b35 at h
  refine pmSeg_U (pc' := 36) (ls' := [some (.ref 13), some (.ref v1), some (.int v2), none]) (st' := [.int 0]) 1 rfl ?_
  exact L_Ju_verdict_b36 d hv1 h
