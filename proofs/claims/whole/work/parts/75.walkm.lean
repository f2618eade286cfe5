theorem L_Mo_needless {S : pmS} (d : Nat) {v1 : Int32} {v2 : Int32} {σ τ : Mem} {z : Int32 × Mem}  (h : Mo_needless v1 v2 σ = some z) : pmX S (d + 5) 147 [.ref 112, .int v1, .int v2] (shH τ σ) (some (.int z.1)) (shH τ z.2) := by
  unfold Mo_needless at h
  refine pmU_X rfl ?_
  refine pmSeg_U (pc' := 3) (ls' := [some (.ref 112), some (.int v1), some (.int v2), none, none]) (st' := [.int v2, .int v1, .ref 112]) 3 rfl ?_
  obtain ⟨q3, hq3, h⟩ := bd_in h
  refine pmU_C (av := [.ref 112, .int v1, .int v2]) (rest := []) rfl rfl rfl rfl rfl (L_Mo_isPolicy (d + 2) hq3) ?_
  refine pmSeg_U (pc' := 6) (ls' := [some (.ref 112), some (.int v1), some (.int v2), none, none]) (st' := [.int q3]) 0 rfl ?_
  refine pu_ifP (tg := 12) h rfl rfl rfl (fun h => ?_) (fun h => ?_)
  · refine pmSeg_U (pc' := 17) (ls' := [some (.ref 112), some (.int v1), some (.int v2), some (.int 1), some (.int 0)]) (st' := []) 4 rfl ?_
    exact L_Mo_needless_b17 d FU h
  · refine pmSeg_U (pc' := 11) (ls' := [some (.ref 112), some (.int v1), some (.int v2), none, none]) (st' := [.int (-2)]) 1 rfl ?_
    cases h
    exact pmU_T rfl rfl rfl rfl rfl rfl
