theorem pu_sld {S : pmS} {d j pc len : Nat} {ls : pmLs} {r0 : List Value} {h h' : pmH} {r : Option Value} {i : Int32} {z : UInt32} (hc : codT j pc = some (.iaload, len)) (hi : pmIn i (S.1 - 1) = true) (kk : pmU S d j (pc + len) ls (.int (S.2 i.toNatClampNeg) :: r0) h r h') : pmU S d j pc ls (.int i :: .float z :: r0) h r h' := by
  refine pmU_3 hc rfl rfl ?_ kk
  show pmArL S 1 (.int i :: .float z :: r0) h = some (.int (S.2 i.toNatClampNeg) :: r0, h)
  unfold pmArL
  simp only [hi, beq_self_eq_true, Bool.and_self, if_true]
set_option maxRecDepth 20000 in
set_option maxHeartbeats 4000000 in
theorem lw_iter {Rel : Mem → Mem → Nat → Prop} (up : ∀ σ τ n, Rel σ τ n → Rel σ τ (n + 1)) (H_join : Stp_join Rel) (H_leave : Stp_leave Rel) (H_mark : Stp_mark Rel) (H_thing : Stp_thing Rel) (H_isIn : Stp_isIn Rel) (H_put : Stp_put Rel) (H_wipe : Stp_wipe Rel) (H_add : Stp_add Rel) (H_drop : Stp_drop Rel) (H_size : Stp_size Rel) (H_policy : Stp_policy Rel) (H_ask : Stp_ask Rel) (H_allows : Stp_allows Rel) (H_compare : Stp_compare Rel) (H_needless : Stp_needless Rel) {L n : Nat} {xs : Nat → Int32} {i : Int32} {σ τ : Mem} (hR : Rel σ τ n) (hn : n < 512) (g0 : pmIn i L = true) (g1 : pmIn (i + 1) L = true) (g2 : pmIn (i + 2) L = true) (g3 : pmIn (i + 3) L = true)
    (next : ∀ σ1 τ1, Rel σ1 τ1 (n + 1) → ∃ σ' τ' : Mem, pmU (L + 1, xs) 80 0 18 [some (.float 0), some (.ref 0), some (.ref 112), some (.int (i + 4))] [] (shH σ1 τ1) (some (.int 1)) (shH σ' τ')) :
    ∃ σ' τ' : Mem, pmU (L + 1, xs) 80 0 26 [some (.float 0), some (.ref 0), some (.ref 112), some (.int i)] [] (shH σ τ) (some (.int 1)) (shH σ' τ') := by
  by_cases e0 : (xs i.toNatClampNeg &&& 15) = 0
  · obtain ⟨r, σ1, τ1, h1, h2, hR1⟩ := H_join σ τ n hR hn (xs (i + 1).toNatClampNeg) (xs (i + 2).toNatClampNeg) (xs (i + 3).toNatClampNeg)
    obtain ⟨σ', τ', K⟩ := next σ1 τ1 hR1
    refine ⟨σ', τ', ?_⟩
    refine pmSeg_U (pc' := 28) (ls' := [some (.float 0), some (.ref 0), some (.ref 112), some (.int i)]) (st' := [.int i, .float 0]) 2 rfl ?_
    refine pu_sld rfl g0 ?_
    refine pmSeg_U (pc' := 32) (ls' := [some (.float 0), some (.ref 0), some (.ref 112), some (.int i)]) (st' := [.int (xs i.toNatClampNeg &&& 15)]) 2 rfl ?_
    refine pu_sw (v := 0) (tg := 108) e0 rfl rfl rfl ?_
    refine pmSeg_U (pc' := 113) (ls' := [some (.float 0), some (.ref 0), some (.ref 112), some (.int i)]) (st' := [.int (i + 1), .float 0, .ref 0]) 5 rfl ?_
    refine pu_sld rfl g1 ?_
    refine pmSeg_U (pc' := 118) (ls' := [some (.float 0), some (.ref 0), some (.ref 112), some (.int i)]) (st' := [.int (i + 2), .float 0, .int (xs (i + 1).toNatClampNeg), .ref 0]) 4 rfl ?_
    refine pu_sld rfl g2 ?_
    refine pmSeg_U (pc' := 123) (ls' := [some (.float 0), some (.ref 0), some (.ref 112), some (.int i)]) (st' := [.int (i + 3), .float 0, .int (xs (i + 2).toNatClampNeg), .int (xs (i + 1).toNatClampNeg), .ref 0]) 4 rfl ?_
    refine pu_sld rfl g3 ?_
    refine pmSeg_U (pc' := 124) (ls' := [some (.float 0), some (.ref 0), some (.ref 112), some (.int i)]) (st' := [.int (xs (i + 3).toNatClampNeg), .int (xs (i + 2).toNatClampNeg), .int (xs (i + 1).toNatClampNeg), .ref 0]) 0 rfl ?_
    refine pmU_C (av := [.ref 0, .int (xs (i + 1).toNatClampNeg), .int (xs (i + 2).toNatClampNeg), .int (xs (i + 3).toNatClampNeg)]) (rest := []) rfl rfl rfl rfl rfl (L_Ps_join 74 h1) ?_
    refine pmSeg_U (pc' := 132) (ls' := [some (.float 0), some (.ref 0), some (.ref 112), some (.int i)]) (st' := [.int (i + 1), .float 0, .ref 112, .int r]) 5 rfl ?_
    refine pu_sld rfl g1 ?_
    refine pmSeg_U (pc' := 137) (ls' := [some (.float 0), some (.ref 0), some (.ref 112), some (.int i)]) (st' := [.int (i + 2), .float 0, .int (xs (i + 1).toNatClampNeg), .ref 112, .int r]) 4 rfl ?_
    refine pu_sld rfl g2 ?_
    refine pmSeg_U (pc' := 142) (ls' := [some (.float 0), some (.ref 0), some (.ref 112), some (.int i)]) (st' := [.int (i + 3), .float 0, .int (xs (i + 2).toNatClampNeg), .int (xs (i + 1).toNatClampNeg), .ref 112, .int r]) 4 rfl ?_
    refine pu_sld rfl g3 ?_
    refine pmSeg_U (pc' := 143) (ls' := [some (.float 0), some (.ref 0), some (.ref 112), some (.int i)]) (st' := [.int (xs (i + 3).toNatClampNeg), .int (xs (i + 2).toNatClampNeg), .int (xs (i + 1).toNatClampNeg), .ref 112, .int r]) 0 rfl ?_
    refine pmU_C (av := [.ref 112, .int (xs (i + 1).toNatClampNeg), .int (xs (i + 2).toNatClampNeg), .int (xs (i + 3).toNatClampNeg)]) (rest := [.int r]) rfl rfl rfl rfl rfl (L_Mo_join 78 h2) ?_
    refine pmSeg_U (pc' := 146) (ls' := [some (.float 0), some (.ref 0), some (.ref 112), some (.int i)]) (st' := [.int r, .int r]) 0 rfl ?_
    refine pu_icmp (tg := 653) rfl rfl (fun _ => ?_) (fun q => absurd (decide_eq_true rfl) q)
    refine pmSeg_U (pc' := 18) (ls' := [some (.float 0), some (.ref 0), some (.ref 112), some (.int (i + 4))]) (st' := []) 2 rfl ?_
    exact K
  by_cases e1 : (xs i.toNatClampNeg &&& 15) = 1
  · obtain ⟨r, σ1, τ1, h1, h2, hR1⟩ := H_leave σ τ n hR hn (xs (i + 1).toNatClampNeg) (xs (i + 2).toNatClampNeg) (xs (i + 3).toNatClampNeg)
    obtain ⟨σ', τ', K⟩ := next σ1 τ1 hR1
    refine ⟨σ', τ', ?_⟩
    refine pmSeg_U (pc' := 28) (ls' := [some (.float 0), some (.ref 0), some (.ref 112), some (.int i)]) (st' := [.int i, .float 0]) 2 rfl ?_
    refine pu_sld rfl g0 ?_
    refine pmSeg_U (pc' := 32) (ls' := [some (.float 0), some (.ref 0), some (.ref 112), some (.int i)]) (st' := [.int (xs i.toNatClampNeg &&& 15)]) 2 rfl ?_
    refine pu_sw (v := 1) (tg := 151) e1 rfl rfl rfl ?_
    refine pmSeg_U (pc' := 156) (ls' := [some (.float 0), some (.ref 0), some (.ref 112), some (.int i)]) (st' := [.int (i + 1), .float 0, .ref 0]) 5 rfl ?_
    refine pu_sld rfl g1 ?_
    refine pmSeg_U (pc' := 161) (ls' := [some (.float 0), some (.ref 0), some (.ref 112), some (.int i)]) (st' := [.int (i + 2), .float 0, .int (xs (i + 1).toNatClampNeg), .ref 0]) 4 rfl ?_
    refine pu_sld rfl g2 ?_
    refine pmSeg_U (pc' := 166) (ls' := [some (.float 0), some (.ref 0), some (.ref 112), some (.int i)]) (st' := [.int (i + 3), .float 0, .int (xs (i + 2).toNatClampNeg), .int (xs (i + 1).toNatClampNeg), .ref 0]) 4 rfl ?_
    refine pu_sld rfl g3 ?_
    refine pmSeg_U (pc' := 167) (ls' := [some (.float 0), some (.ref 0), some (.ref 112), some (.int i)]) (st' := [.int (xs (i + 3).toNatClampNeg), .int (xs (i + 2).toNatClampNeg), .int (xs (i + 1).toNatClampNeg), .ref 0]) 0 rfl ?_
    refine pmU_C (av := [.ref 0, .int (xs (i + 1).toNatClampNeg), .int (xs (i + 2).toNatClampNeg), .int (xs (i + 3).toNatClampNeg)]) (rest := []) rfl rfl rfl rfl rfl (L_Ps_leave 74 h1) ?_
    refine pmSeg_U (pc' := 175) (ls' := [some (.float 0), some (.ref 0), some (.ref 112), some (.int i)]) (st' := [.int (i + 1), .float 0, .ref 112, .int r]) 5 rfl ?_
    refine pu_sld rfl g1 ?_
    refine pmSeg_U (pc' := 180) (ls' := [some (.float 0), some (.ref 0), some (.ref 112), some (.int i)]) (st' := [.int (i + 2), .float 0, .int (xs (i + 1).toNatClampNeg), .ref 112, .int r]) 4 rfl ?_
    refine pu_sld rfl g2 ?_
    refine pmSeg_U (pc' := 185) (ls' := [some (.float 0), some (.ref 0), some (.ref 112), some (.int i)]) (st' := [.int (i + 3), .float 0, .int (xs (i + 2).toNatClampNeg), .int (xs (i + 1).toNatClampNeg), .ref 112, .int r]) 4 rfl ?_
    refine pu_sld rfl g3 ?_
    refine pmSeg_U (pc' := 186) (ls' := [some (.float 0), some (.ref 0), some (.ref 112), some (.int i)]) (st' := [.int (xs (i + 3).toNatClampNeg), .int (xs (i + 2).toNatClampNeg), .int (xs (i + 1).toNatClampNeg), .ref 112, .int r]) 0 rfl ?_
    refine pmU_C (av := [.ref 112, .int (xs (i + 1).toNatClampNeg), .int (xs (i + 2).toNatClampNeg), .int (xs (i + 3).toNatClampNeg)]) (rest := [.int r]) rfl rfl rfl rfl rfl (L_Mo_leave 78 h2) ?_
    refine pmSeg_U (pc' := 189) (ls' := [some (.float 0), some (.ref 0), some (.ref 112), some (.int i)]) (st' := [.int r, .int r]) 0 rfl ?_
    refine pu_icmp (tg := 653) rfl rfl (fun _ => ?_) (fun q => absurd (decide_eq_true rfl) q)
    refine pmSeg_U (pc' := 18) (ls' := [some (.float 0), some (.ref 0), some (.ref 112), some (.int (i + 4))]) (st' := []) 2 rfl ?_
    exact K
  by_cases e2 : (xs i.toNatClampNeg &&& 15) = 2
  · obtain ⟨r, σ1, τ1, h1, h2, hR1⟩ := H_mark σ τ n hR hn (xs (i + 1).toNatClampNeg) (xs (i + 2).toNatClampNeg) (xs (i + 3).toNatClampNeg)
    obtain ⟨σ', τ', K⟩ := next σ1 τ1 hR1
    refine ⟨σ', τ', ?_⟩
    refine pmSeg_U (pc' := 28) (ls' := [some (.float 0), some (.ref 0), some (.ref 112), some (.int i)]) (st' := [.int i, .float 0]) 2 rfl ?_
    refine pu_sld rfl g0 ?_
    refine pmSeg_U (pc' := 32) (ls' := [some (.float 0), some (.ref 0), some (.ref 112), some (.int i)]) (st' := [.int (xs i.toNatClampNeg &&& 15)]) 2 rfl ?_
    refine pu_sw (v := 2) (tg := 194) e2 rfl rfl rfl ?_
    refine pmSeg_U (pc' := 199) (ls' := [some (.float 0), some (.ref 0), some (.ref 112), some (.int i)]) (st' := [.int (i + 1), .float 0, .ref 0]) 5 rfl ?_
    refine pu_sld rfl g1 ?_
    refine pmSeg_U (pc' := 204) (ls' := [some (.float 0), some (.ref 0), some (.ref 112), some (.int i)]) (st' := [.int (i + 2), .float 0, .int (xs (i + 1).toNatClampNeg), .ref 0]) 4 rfl ?_
    refine pu_sld rfl g2 ?_
    refine pmSeg_U (pc' := 209) (ls' := [some (.float 0), some (.ref 0), some (.ref 112), some (.int i)]) (st' := [.int (i + 3), .float 0, .int (xs (i + 2).toNatClampNeg), .int (xs (i + 1).toNatClampNeg), .ref 0]) 4 rfl ?_
    refine pu_sld rfl g3 ?_
    refine pmSeg_U (pc' := 210) (ls' := [some (.float 0), some (.ref 0), some (.ref 112), some (.int i)]) (st' := [.int (xs (i + 3).toNatClampNeg), .int (xs (i + 2).toNatClampNeg), .int (xs (i + 1).toNatClampNeg), .ref 0]) 0 rfl ?_
    refine pmU_C (av := [.ref 0, .int (xs (i + 1).toNatClampNeg), .int (xs (i + 2).toNatClampNeg), .int (xs (i + 3).toNatClampNeg)]) (rest := []) rfl rfl rfl rfl rfl (L_Ps_mark 78 h1) ?_
    refine pmSeg_U (pc' := 218) (ls' := [some (.float 0), some (.ref 0), some (.ref 112), some (.int i)]) (st' := [.int (i + 1), .float 0, .ref 112, .int r]) 5 rfl ?_
    refine pu_sld rfl g1 ?_
    refine pmSeg_U (pc' := 223) (ls' := [some (.float 0), some (.ref 0), some (.ref 112), some (.int i)]) (st' := [.int (i + 2), .float 0, .int (xs (i + 1).toNatClampNeg), .ref 112, .int r]) 4 rfl ?_
    refine pu_sld rfl g2 ?_
    refine pmSeg_U (pc' := 228) (ls' := [some (.float 0), some (.ref 0), some (.ref 112), some (.int i)]) (st' := [.int (i + 3), .float 0, .int (xs (i + 2).toNatClampNeg), .int (xs (i + 1).toNatClampNeg), .ref 112, .int r]) 4 rfl ?_
    refine pu_sld rfl g3 ?_
    refine pmSeg_U (pc' := 229) (ls' := [some (.float 0), some (.ref 0), some (.ref 112), some (.int i)]) (st' := [.int (xs (i + 3).toNatClampNeg), .int (xs (i + 2).toNatClampNeg), .int (xs (i + 1).toNatClampNeg), .ref 112, .int r]) 0 rfl ?_
    refine pmU_C (av := [.ref 112, .int (xs (i + 1).toNatClampNeg), .int (xs (i + 2).toNatClampNeg), .int (xs (i + 3).toNatClampNeg)]) (rest := [.int r]) rfl rfl rfl rfl rfl (L_Mo_mark 78 h2) ?_
    refine pmSeg_U (pc' := 232) (ls' := [some (.float 0), some (.ref 0), some (.ref 112), some (.int i)]) (st' := [.int r, .int r]) 0 rfl ?_
    refine pu_icmp (tg := 653) rfl rfl (fun _ => ?_) (fun q => absurd (decide_eq_true rfl) q)
    refine pmSeg_U (pc' := 18) (ls' := [some (.float 0), some (.ref 0), some (.ref 112), some (.int (i + 4))]) (st' := []) 2 rfl ?_
    exact K
  by_cases e3 : (xs i.toNatClampNeg &&& 15) = 3
  · obtain ⟨r, σ1, τ1, h1, h2, hR1⟩ := H_thing σ τ n hR hn (xs (i + 1).toNatClampNeg) (xs (i + 2).toNatClampNeg) (xs (i + 3).toNatClampNeg)
    obtain ⟨σ', τ', K⟩ := next σ1 τ1 hR1
    refine ⟨σ', τ', ?_⟩
    refine pmSeg_U (pc' := 28) (ls' := [some (.float 0), some (.ref 0), some (.ref 112), some (.int i)]) (st' := [.int i, .float 0]) 2 rfl ?_
    refine pu_sld rfl g0 ?_
    refine pmSeg_U (pc' := 32) (ls' := [some (.float 0), some (.ref 0), some (.ref 112), some (.int i)]) (st' := [.int (xs i.toNatClampNeg &&& 15)]) 2 rfl ?_
    refine pu_sw (v := 3) (tg := 237) e3 rfl rfl rfl ?_
    refine pmSeg_U (pc' := 242) (ls' := [some (.float 0), some (.ref 0), some (.ref 112), some (.int i)]) (st' := [.int (i + 1), .float 0, .ref 0]) 5 rfl ?_
    refine pu_sld rfl g1 ?_
    refine pmSeg_U (pc' := 247) (ls' := [some (.float 0), some (.ref 0), some (.ref 112), some (.int i)]) (st' := [.int (i + 2), .float 0, .int (xs (i + 1).toNatClampNeg), .ref 0]) 4 rfl ?_
    refine pu_sld rfl g2 ?_
    refine pmSeg_U (pc' := 252) (ls' := [some (.float 0), some (.ref 0), some (.ref 112), some (.int i)]) (st' := [.int (i + 3), .float 0, .int (xs (i + 2).toNatClampNeg), .int (xs (i + 1).toNatClampNeg), .ref 0]) 4 rfl ?_
    refine pu_sld rfl g3 ?_
    refine pmSeg_U (pc' := 253) (ls' := [some (.float 0), some (.ref 0), some (.ref 112), some (.int i)]) (st' := [.int (xs (i + 3).toNatClampNeg), .int (xs (i + 2).toNatClampNeg), .int (xs (i + 1).toNatClampNeg), .ref 0]) 0 rfl ?_
    refine pmU_C (av := [.ref 0, .int (xs (i + 1).toNatClampNeg), .int (xs (i + 2).toNatClampNeg), .int (xs (i + 3).toNatClampNeg)]) (rest := []) rfl rfl rfl rfl rfl (L_Ps_thing 78 h1) ?_
    refine pmSeg_U (pc' := 261) (ls' := [some (.float 0), some (.ref 0), some (.ref 112), some (.int i)]) (st' := [.int (i + 1), .float 0, .ref 112, .int r]) 5 rfl ?_
    refine pu_sld rfl g1 ?_
    refine pmSeg_U (pc' := 266) (ls' := [some (.float 0), some (.ref 0), some (.ref 112), some (.int i)]) (st' := [.int (i + 2), .float 0, .int (xs (i + 1).toNatClampNeg), .ref 112, .int r]) 4 rfl ?_
    refine pu_sld rfl g2 ?_
    refine pmSeg_U (pc' := 271) (ls' := [some (.float 0), some (.ref 0), some (.ref 112), some (.int i)]) (st' := [.int (i + 3), .float 0, .int (xs (i + 2).toNatClampNeg), .int (xs (i + 1).toNatClampNeg), .ref 112, .int r]) 4 rfl ?_
    refine pu_sld rfl g3 ?_
    refine pmSeg_U (pc' := 272) (ls' := [some (.float 0), some (.ref 0), some (.ref 112), some (.int i)]) (st' := [.int (xs (i + 3).toNatClampNeg), .int (xs (i + 2).toNatClampNeg), .int (xs (i + 1).toNatClampNeg), .ref 112, .int r]) 0 rfl ?_
    refine pmU_C (av := [.ref 112, .int (xs (i + 1).toNatClampNeg), .int (xs (i + 2).toNatClampNeg), .int (xs (i + 3).toNatClampNeg)]) (rest := [.int r]) rfl rfl rfl rfl rfl (L_Mo_thing 78 h2) ?_
    refine pmSeg_U (pc' := 275) (ls' := [some (.float 0), some (.ref 0), some (.ref 112), some (.int i)]) (st' := [.int r, .int r]) 0 rfl ?_
    refine pu_icmp (tg := 653) rfl rfl (fun _ => ?_) (fun q => absurd (decide_eq_true rfl) q)
    refine pmSeg_U (pc' := 18) (ls' := [some (.float 0), some (.ref 0), some (.ref 112), some (.int (i + 4))]) (st' := []) 2 rfl ?_
    exact K
  by_cases e4 : (xs i.toNatClampNeg &&& 15) = 4
  · obtain ⟨r, h1, h2, hR1⟩ := H_isIn σ τ n hR hn (xs (i + 1).toNatClampNeg) (xs (i + 2).toNatClampNeg) (xs (i + 3).toNatClampNeg)
    obtain ⟨σ', τ', K⟩ := next σ τ hR1
    refine ⟨σ', τ', ?_⟩
    refine pmSeg_U (pc' := 28) (ls' := [some (.float 0), some (.ref 0), some (.ref 112), some (.int i)]) (st' := [.int i, .float 0]) 2 rfl ?_
    refine pu_sld rfl g0 ?_
    refine pmSeg_U (pc' := 32) (ls' := [some (.float 0), some (.ref 0), some (.ref 112), some (.int i)]) (st' := [.int (xs i.toNatClampNeg &&& 15)]) 2 rfl ?_
    refine pu_sw (v := 4) (tg := 280) e4 rfl rfl rfl ?_
    refine pmSeg_U (pc' := 285) (ls' := [some (.float 0), some (.ref 0), some (.ref 112), some (.int i)]) (st' := [.int (i + 1), .float 0, .ref 0]) 5 rfl ?_
    refine pu_sld rfl g1 ?_
    refine pmSeg_U (pc' := 290) (ls' := [some (.float 0), some (.ref 0), some (.ref 112), some (.int i)]) (st' := [.int (i + 2), .float 0, .int (xs (i + 1).toNatClampNeg), .ref 0]) 4 rfl ?_
    refine pu_sld rfl g2 ?_
    refine pmSeg_U (pc' := 295) (ls' := [some (.float 0), some (.ref 0), some (.ref 112), some (.int i)]) (st' := [.int (i + 3), .float 0, .int (xs (i + 2).toNatClampNeg), .int (xs (i + 1).toNatClampNeg), .ref 0]) 4 rfl ?_
    refine pu_sld rfl g3 ?_
    refine pmSeg_U (pc' := 296) (ls' := [some (.float 0), some (.ref 0), some (.ref 112), some (.int i)]) (st' := [.int (xs (i + 3).toNatClampNeg), .int (xs (i + 2).toNatClampNeg), .int (xs (i + 1).toNatClampNeg), .ref 0]) 0 rfl ?_
    refine pmU_C (av := [.ref 0, .int (xs (i + 1).toNatClampNeg), .int (xs (i + 2).toNatClampNeg), .int (xs (i + 3).toNatClampNeg)]) (rest := []) rfl rfl rfl rfl rfl (L_Ps_isIn 77 h1) ?_
    refine pmSeg_U (pc' := 304) (ls' := [some (.float 0), some (.ref 0), some (.ref 112), some (.int i)]) (st' := [.int (i + 1), .float 0, .ref 112, .int r]) 5 rfl ?_
    refine pu_sld rfl g1 ?_
    refine pmSeg_U (pc' := 309) (ls' := [some (.float 0), some (.ref 0), some (.ref 112), some (.int i)]) (st' := [.int (i + 2), .float 0, .int (xs (i + 1).toNatClampNeg), .ref 112, .int r]) 4 rfl ?_
    refine pu_sld rfl g2 ?_
    refine pmSeg_U (pc' := 314) (ls' := [some (.float 0), some (.ref 0), some (.ref 112), some (.int i)]) (st' := [.int (i + 3), .float 0, .int (xs (i + 2).toNatClampNeg), .int (xs (i + 1).toNatClampNeg), .ref 112, .int r]) 4 rfl ?_
    refine pu_sld rfl g3 ?_
    refine pmSeg_U (pc' := 315) (ls' := [some (.float 0), some (.ref 0), some (.ref 112), some (.int i)]) (st' := [.int (xs (i + 3).toNatClampNeg), .int (xs (i + 2).toNatClampNeg), .int (xs (i + 1).toNatClampNeg), .ref 112, .int r]) 0 rfl ?_
    refine pmU_C (av := [.ref 112, .int (xs (i + 1).toNatClampNeg), .int (xs (i + 2).toNatClampNeg), .int (xs (i + 3).toNatClampNeg)]) (rest := [.int r]) rfl rfl rfl rfl rfl (L_Mo_isIn 78 h2) ?_
    refine pmSeg_U (pc' := 318) (ls' := [some (.float 0), some (.ref 0), some (.ref 112), some (.int i)]) (st' := [.int r, .int r]) 0 rfl ?_
    refine pu_icmp (tg := 653) rfl rfl (fun _ => ?_) (fun q => absurd (decide_eq_true rfl) q)
    refine pmSeg_U (pc' := 18) (ls' := [some (.float 0), some (.ref 0), some (.ref 112), some (.int (i + 4))]) (st' := []) 2 rfl ?_
    exact K
  by_cases e5 : (xs i.toNatClampNeg &&& 15) = 5
  · obtain ⟨r, σ1, τ1, h1, h2, hR1⟩ := H_put σ τ n hR hn (((xs (i + 1).toNatClampNeg).toInt64 <<< ((32 : Int32).toInt64 &&& 63)) ||| ((xs (i + 2).toNatClampNeg).toInt64 &&& 4294967295)) (xs (i + 3).toNatClampNeg)
    obtain ⟨σ', τ', K⟩ := next σ1 τ1 hR1
    refine ⟨σ', τ', ?_⟩
    refine pmSeg_U (pc' := 28) (ls' := [some (.float 0), some (.ref 0), some (.ref 112), some (.int i)]) (st' := [.int i, .float 0]) 2 rfl ?_
    refine pu_sld rfl g0 ?_
    refine pmSeg_U (pc' := 32) (ls' := [some (.float 0), some (.ref 0), some (.ref 112), some (.int i)]) (st' := [.int (xs i.toNatClampNeg &&& 15)]) 2 rfl ?_
    refine pu_sw (v := 5) (tg := 323) e5 rfl rfl rfl ?_
    refine pmSeg_U (pc' := 328) (ls' := [some (.float 0), some (.ref 0), some (.ref 112), some (.int i)]) (st' := [.int (i + 1), .float 0, .ref 0]) 5 rfl ?_
    refine pu_sld rfl g1 ?_
    refine pmSeg_U (pc' := 337) (ls' := [some (.float 0), some (.ref 0), some (.ref 112), some (.int i)]) (st' := [.int (i + 2), .float 0, .long (((xs (i + 1).toNatClampNeg)).toInt64 <<< ((32 : Int32).toInt64 &&& 63)), .ref 0]) 7 rfl ?_
    refine pu_sld rfl g2 ?_
    refine pmSeg_U (pc' := 348) (ls' := [some (.float 0), some (.ref 0), some (.ref 112), some (.int i)]) (st' := [.int (i + 3), .float 0, .long ((((xs (i + 1).toNatClampNeg)).toInt64 <<< ((32 : Int32).toInt64 &&& 63)) ||| (((xs (i + 2).toNatClampNeg)).toInt64 &&& 4294967295)), .ref 0]) 8 rfl ?_
    refine pu_sld rfl g3 ?_
    refine pmSeg_U (pc' := 349) (ls' := [some (.float 0), some (.ref 0), some (.ref 112), some (.int i)]) (st' := [.int (xs (i + 3).toNatClampNeg), .long ((((xs (i + 1).toNatClampNeg)).toInt64 <<< ((32 : Int32).toInt64 &&& 63)) ||| (((xs (i + 2).toNatClampNeg)).toInt64 &&& 4294967295)), .ref 0]) 0 rfl ?_
    refine pmU_C (av := [.ref 0, .long ((((xs (i + 1).toNatClampNeg)).toInt64 <<< ((32 : Int32).toInt64 &&& 63)) ||| (((xs (i + 2).toNatClampNeg)).toInt64 &&& 4294967295)), .int (xs (i + 3).toNatClampNeg)]) (rest := []) rfl rfl rfl rfl rfl (L_Ps_put 78 h1) ?_
    refine pmSeg_U (pc' := 357) (ls' := [some (.float 0), some (.ref 0), some (.ref 112), some (.int i)]) (st' := [.int (i + 1), .float 0, .ref 112, .int r]) 5 rfl ?_
    refine pu_sld rfl g1 ?_
    refine pmSeg_U (pc' := 366) (ls' := [some (.float 0), some (.ref 0), some (.ref 112), some (.int i)]) (st' := [.int (i + 2), .float 0, .long (((xs (i + 1).toNatClampNeg)).toInt64 <<< ((32 : Int32).toInt64 &&& 63)), .ref 112, .int r]) 7 rfl ?_
    refine pu_sld rfl g2 ?_
    refine pmSeg_U (pc' := 377) (ls' := [some (.float 0), some (.ref 0), some (.ref 112), some (.int i)]) (st' := [.int (i + 3), .float 0, .long ((((xs (i + 1).toNatClampNeg)).toInt64 <<< ((32 : Int32).toInt64 &&& 63)) ||| (((xs (i + 2).toNatClampNeg)).toInt64 &&& 4294967295)), .ref 112, .int r]) 8 rfl ?_
    refine pu_sld rfl g3 ?_
    refine pmSeg_U (pc' := 378) (ls' := [some (.float 0), some (.ref 0), some (.ref 112), some (.int i)]) (st' := [.int (xs (i + 3).toNatClampNeg), .long ((((xs (i + 1).toNatClampNeg)).toInt64 <<< ((32 : Int32).toInt64 &&& 63)) ||| (((xs (i + 2).toNatClampNeg)).toInt64 &&& 4294967295)), .ref 112, .int r]) 0 rfl ?_
    refine pmU_C (av := [.ref 112, .long ((((xs (i + 1).toNatClampNeg)).toInt64 <<< ((32 : Int32).toInt64 &&& 63)) ||| (((xs (i + 2).toNatClampNeg)).toInt64 &&& 4294967295)), .int (xs (i + 3).toNatClampNeg)]) (rest := [.int r]) rfl rfl rfl rfl rfl (L_Mo_put 79 h2) ?_
    refine pmSeg_U (pc' := 381) (ls' := [some (.float 0), some (.ref 0), some (.ref 112), some (.int i)]) (st' := [.int r, .int r]) 0 rfl ?_
    refine pu_icmp (tg := 653) rfl rfl (fun _ => ?_) (fun q => absurd (decide_eq_true rfl) q)
    refine pmSeg_U (pc' := 18) (ls' := [some (.float 0), some (.ref 0), some (.ref 112), some (.int (i + 4))]) (st' := []) 2 rfl ?_
    exact K
  by_cases e6 : (xs i.toNatClampNeg &&& 15) = 6
  · obtain ⟨r, σ1, τ1, h1, h2, hR1⟩ := H_wipe σ τ n hR hn ()
    obtain ⟨σ', τ', K⟩ := next σ1 τ1 hR1
    refine ⟨σ', τ', ?_⟩
    refine pmSeg_U (pc' := 28) (ls' := [some (.float 0), some (.ref 0), some (.ref 112), some (.int i)]) (st' := [.int i, .float 0]) 2 rfl ?_
    refine pu_sld rfl g0 ?_
    refine pmSeg_U (pc' := 32) (ls' := [some (.float 0), some (.ref 0), some (.ref 112), some (.int i)]) (st' := [.int (xs i.toNatClampNeg &&& 15)]) 2 rfl ?_
    refine pu_sw (v := 6) (tg := 386) e6 rfl rfl rfl ?_
    refine pmSeg_U (pc' := 387) (ls' := [some (.float 0), some (.ref 0), some (.ref 112), some (.int i)]) (st' := [.ref 0]) 1 rfl ?_
    refine pmU_C (av := [.ref 0]) (rest := []) rfl rfl rfl rfl rfl (L_Ps_wipe 78 h1) ?_
    refine pmSeg_U (pc' := 391) (ls' := [some (.float 0), some (.ref 0), some (.ref 112), some (.int i)]) (st' := [.ref 112, .int r]) 1 rfl ?_
    refine pmU_C (av := [.ref 112]) (rest := [.int r]) rfl rfl rfl rfl rfl (L_Mo_wipe 79 h2) ?_
    refine pmSeg_U (pc' := 394) (ls' := [some (.float 0), some (.ref 0), some (.ref 112), some (.int i)]) (st' := [.int r, .int r]) 0 rfl ?_
    refine pu_icmp (tg := 653) rfl rfl (fun _ => ?_) (fun q => absurd (decide_eq_true rfl) q)
    refine pmSeg_U (pc' := 18) (ls' := [some (.float 0), some (.ref 0), some (.ref 112), some (.int (i + 4))]) (st' := []) 2 rfl ?_
    exact K
  by_cases e7 : (xs i.toNatClampNeg &&& 15) = 7
  · obtain ⟨r, σ1, τ1, h1, h2, hR1⟩ := H_add σ τ n hR hn (xs (i + 1).toNatClampNeg)
    obtain ⟨σ', τ', K⟩ := next σ1 τ1 hR1
    refine ⟨σ', τ', ?_⟩
    refine pmSeg_U (pc' := 28) (ls' := [some (.float 0), some (.ref 0), some (.ref 112), some (.int i)]) (st' := [.int i, .float 0]) 2 rfl ?_
    refine pu_sld rfl g0 ?_
    refine pmSeg_U (pc' := 32) (ls' := [some (.float 0), some (.ref 0), some (.ref 112), some (.int i)]) (st' := [.int (xs i.toNatClampNeg &&& 15)]) 2 rfl ?_
    refine pu_sw (v := 7) (tg := 399) e7 rfl rfl rfl ?_
    refine pmSeg_U (pc' := 404) (ls' := [some (.float 0), some (.ref 0), some (.ref 112), some (.int i)]) (st' := [.int (i + 1), .float 0, .ref 0]) 5 rfl ?_
    refine pu_sld rfl g1 ?_
    refine pmSeg_U (pc' := 405) (ls' := [some (.float 0), some (.ref 0), some (.ref 112), some (.int i)]) (st' := [.int (xs (i + 1).toNatClampNeg), .ref 0]) 0 rfl ?_
    refine pmU_C (av := [.ref 0, .int (xs (i + 1).toNatClampNeg)]) (rest := []) rfl rfl rfl rfl rfl (L_Ps_add 9 h1) ?_
    refine pmSeg_U (pc' := 413) (ls' := [some (.float 0), some (.ref 0), some (.ref 112), some (.int i)]) (st' := [.int (i + 1), .float 0, .ref 112, .int r]) 5 rfl ?_
    refine pu_sld rfl g1 ?_
    refine pmSeg_U (pc' := 414) (ls' := [some (.float 0), some (.ref 0), some (.ref 112), some (.int i)]) (st' := [.int (xs (i + 1).toNatClampNeg), .ref 112, .int r]) 0 rfl ?_
    refine pmU_C (av := [.ref 112, .int (xs (i + 1).toNatClampNeg)]) (rest := [.int r]) rfl rfl rfl rfl rfl (L_Mo_add 71 h2) ?_
    refine pmSeg_U (pc' := 417) (ls' := [some (.float 0), some (.ref 0), some (.ref 112), some (.int i)]) (st' := [.int r, .int r]) 0 rfl ?_
    refine pu_icmp (tg := 653) rfl rfl (fun _ => ?_) (fun q => absurd (decide_eq_true rfl) q)
    refine pmSeg_U (pc' := 18) (ls' := [some (.float 0), some (.ref 0), some (.ref 112), some (.int (i + 4))]) (st' := []) 2 rfl ?_
    exact K
  by_cases e8 : (xs i.toNatClampNeg &&& 15) = 8
  · obtain ⟨r, σ1, τ1, h1, h2, hR1⟩ := H_drop σ τ n hR hn (xs (i + 1).toNatClampNeg) (xs (i + 2).toNatClampNeg)
    obtain ⟨σ', τ', K⟩ := next σ1 τ1 hR1
    refine ⟨σ', τ', ?_⟩
    refine pmSeg_U (pc' := 28) (ls' := [some (.float 0), some (.ref 0), some (.ref 112), some (.int i)]) (st' := [.int i, .float 0]) 2 rfl ?_
    refine pu_sld rfl g0 ?_
    refine pmSeg_U (pc' := 32) (ls' := [some (.float 0), some (.ref 0), some (.ref 112), some (.int i)]) (st' := [.int (xs i.toNatClampNeg &&& 15)]) 2 rfl ?_
    refine pu_sw (v := 8) (tg := 422) e8 rfl rfl rfl ?_
    refine pmSeg_U (pc' := 427) (ls' := [some (.float 0), some (.ref 0), some (.ref 112), some (.int i)]) (st' := [.int (i + 1), .float 0, .ref 0]) 5 rfl ?_
    refine pu_sld rfl g1 ?_
    refine pmSeg_U (pc' := 432) (ls' := [some (.float 0), some (.ref 0), some (.ref 112), some (.int i)]) (st' := [.int (i + 2), .float 0, .int (xs (i + 1).toNatClampNeg), .ref 0]) 4 rfl ?_
    refine pu_sld rfl g2 ?_
    refine pmSeg_U (pc' := 433) (ls' := [some (.float 0), some (.ref 0), some (.ref 112), some (.int i)]) (st' := [.int (xs (i + 2).toNatClampNeg), .int (xs (i + 1).toNatClampNeg), .ref 0]) 0 rfl ?_
    refine pmU_C (av := [.ref 0, .int (xs (i + 1).toNatClampNeg), .int (xs (i + 2).toNatClampNeg)]) (rest := []) rfl rfl rfl rfl rfl (L_Ps_drop 77 h1) ?_
    refine pmSeg_U (pc' := 441) (ls' := [some (.float 0), some (.ref 0), some (.ref 112), some (.int i)]) (st' := [.int (i + 1), .float 0, .ref 112, .int r]) 5 rfl ?_
    refine pu_sld rfl g1 ?_
    refine pmSeg_U (pc' := 446) (ls' := [some (.float 0), some (.ref 0), some (.ref 112), some (.int i)]) (st' := [.int (i + 2), .float 0, .int (xs (i + 1).toNatClampNeg), .ref 112, .int r]) 4 rfl ?_
    refine pu_sld rfl g2 ?_
    refine pmSeg_U (pc' := 447) (ls' := [some (.float 0), some (.ref 0), some (.ref 112), some (.int i)]) (st' := [.int (xs (i + 2).toNatClampNeg), .int (xs (i + 1).toNatClampNeg), .ref 112, .int r]) 0 rfl ?_
    refine pmU_C (av := [.ref 112, .int (xs (i + 1).toNatClampNeg), .int (xs (i + 2).toNatClampNeg)]) (rest := [.int r]) rfl rfl rfl rfl rfl (L_Mo_drop 77 h2) ?_
    refine pmSeg_U (pc' := 450) (ls' := [some (.float 0), some (.ref 0), some (.ref 112), some (.int i)]) (st' := [.int r, .int r]) 0 rfl ?_
    refine pu_icmp (tg := 653) rfl rfl (fun _ => ?_) (fun q => absurd (decide_eq_true rfl) q)
    refine pmSeg_U (pc' := 18) (ls' := [some (.float 0), some (.ref 0), some (.ref 112), some (.int (i + 4))]) (st' := []) 2 rfl ?_
    exact K
  by_cases e9 : (xs i.toNatClampNeg &&& 15) = 9
  · obtain ⟨r, h1, h2, hR1⟩ := H_size σ τ n hR hn (xs (i + 1).toNatClampNeg)
    obtain ⟨σ', τ', K⟩ := next σ τ hR1
    refine ⟨σ', τ', ?_⟩
    refine pmSeg_U (pc' := 28) (ls' := [some (.float 0), some (.ref 0), some (.ref 112), some (.int i)]) (st' := [.int i, .float 0]) 2 rfl ?_
    refine pu_sld rfl g0 ?_
    refine pmSeg_U (pc' := 32) (ls' := [some (.float 0), some (.ref 0), some (.ref 112), some (.int i)]) (st' := [.int (xs i.toNatClampNeg &&& 15)]) 2 rfl ?_
    refine pu_sw (v := 9) (tg := 455) e9 rfl rfl rfl ?_
    refine pmSeg_U (pc' := 460) (ls' := [some (.float 0), some (.ref 0), some (.ref 112), some (.int i)]) (st' := [.int (i + 1), .float 0, .ref 0]) 5 rfl ?_
    refine pu_sld rfl g1 ?_
    refine pmSeg_U (pc' := 461) (ls' := [some (.float 0), some (.ref 0), some (.ref 112), some (.int i)]) (st' := [.int (xs (i + 1).toNatClampNeg), .ref 0]) 0 rfl ?_
    refine pmU_C (av := [.ref 0, .int (xs (i + 1).toNatClampNeg)]) (rest := []) rfl rfl rfl rfl rfl (L_Ps_size 78 h1) ?_
    refine pmSeg_U (pc' := 469) (ls' := [some (.float 0), some (.ref 0), some (.ref 112), some (.int i)]) (st' := [.int (i + 1), .float 0, .ref 112, .int r]) 5 rfl ?_
    refine pu_sld rfl g1 ?_
    refine pmSeg_U (pc' := 470) (ls' := [some (.float 0), some (.ref 0), some (.ref 112), some (.int i)]) (st' := [.int (xs (i + 1).toNatClampNeg), .ref 112, .int r]) 0 rfl ?_
    refine pmU_C (av := [.ref 112, .int (xs (i + 1).toNatClampNeg)]) (rest := [.int r]) rfl rfl rfl rfl rfl (L_Mo_size 78 h2) ?_
    refine pmSeg_U (pc' := 473) (ls' := [some (.float 0), some (.ref 0), some (.ref 112), some (.int i)]) (st' := [.int r, .int r]) 0 rfl ?_
    refine pu_icmp (tg := 653) rfl rfl (fun _ => ?_) (fun q => absurd (decide_eq_true rfl) q)
    refine pmSeg_U (pc' := 18) (ls' := [some (.float 0), some (.ref 0), some (.ref 112), some (.int (i + 4))]) (st' := []) 2 rfl ?_
    exact K
  by_cases e10 : (xs i.toNatClampNeg &&& 15) = 10
  · obtain ⟨r, σ1, τ1, h1, h2, hR1⟩ := H_policy σ τ n hR hn (xs (i + 1).toNatClampNeg) (xs (i + 2).toNatClampNeg) (xs (i + 3).toNatClampNeg)
    obtain ⟨σ', τ', K⟩ := next σ1 τ1 hR1
    refine ⟨σ', τ', ?_⟩
    refine pmSeg_U (pc' := 28) (ls' := [some (.float 0), some (.ref 0), some (.ref 112), some (.int i)]) (st' := [.int i, .float 0]) 2 rfl ?_
    refine pu_sld rfl g0 ?_
    refine pmSeg_U (pc' := 32) (ls' := [some (.float 0), some (.ref 0), some (.ref 112), some (.int i)]) (st' := [.int (xs i.toNatClampNeg &&& 15)]) 2 rfl ?_
    refine pu_sw (v := 10) (tg := 478) e10 rfl rfl rfl ?_
    refine pmSeg_U (pc' := 483) (ls' := [some (.float 0), some (.ref 0), some (.ref 112), some (.int i)]) (st' := [.int (i + 1), .float 0, .ref 0]) 5 rfl ?_
    refine pu_sld rfl g1 ?_
    refine pmSeg_U (pc' := 488) (ls' := [some (.float 0), some (.ref 0), some (.ref 112), some (.int i)]) (st' := [.int (i + 2), .float 0, .int (xs (i + 1).toNatClampNeg), .ref 0]) 4 rfl ?_
    refine pu_sld rfl g2 ?_
    refine pmSeg_U (pc' := 493) (ls' := [some (.float 0), some (.ref 0), some (.ref 112), some (.int i)]) (st' := [.int (i + 3), .float 0, .int (xs (i + 2).toNatClampNeg), .int (xs (i + 1).toNatClampNeg), .ref 0]) 4 rfl ?_
    refine pu_sld rfl g3 ?_
    refine pmSeg_U (pc' := 494) (ls' := [some (.float 0), some (.ref 0), some (.ref 112), some (.int i)]) (st' := [.int (xs (i + 3).toNatClampNeg), .int (xs (i + 2).toNatClampNeg), .int (xs (i + 1).toNatClampNeg), .ref 0]) 0 rfl ?_
    refine pmU_C (av := [.ref 0, .int (xs (i + 1).toNatClampNeg), .int (xs (i + 2).toNatClampNeg), .int (xs (i + 3).toNatClampNeg)]) (rest := []) rfl rfl rfl rfl rfl (L_Ps_policy 74 h1) ?_
    refine pmSeg_U (pc' := 502) (ls' := [some (.float 0), some (.ref 0), some (.ref 112), some (.int i)]) (st' := [.int (i + 1), .float 0, .ref 112, .int r]) 5 rfl ?_
    refine pu_sld rfl g1 ?_
    refine pmSeg_U (pc' := 507) (ls' := [some (.float 0), some (.ref 0), some (.ref 112), some (.int i)]) (st' := [.int (i + 2), .float 0, .int (xs (i + 1).toNatClampNeg), .ref 112, .int r]) 4 rfl ?_
    refine pu_sld rfl g2 ?_
    refine pmSeg_U (pc' := 512) (ls' := [some (.float 0), some (.ref 0), some (.ref 112), some (.int i)]) (st' := [.int (i + 3), .float 0, .int (xs (i + 2).toNatClampNeg), .int (xs (i + 1).toNatClampNeg), .ref 112, .int r]) 4 rfl ?_
    refine pu_sld rfl g3 ?_
    refine pmSeg_U (pc' := 513) (ls' := [some (.float 0), some (.ref 0), some (.ref 112), some (.int i)]) (st' := [.int (xs (i + 3).toNatClampNeg), .int (xs (i + 2).toNatClampNeg), .int (xs (i + 1).toNatClampNeg), .ref 112, .int r]) 0 rfl ?_
    refine pmU_C (av := [.ref 112, .int (xs (i + 1).toNatClampNeg), .int (xs (i + 2).toNatClampNeg), .int (xs (i + 3).toNatClampNeg)]) (rest := [.int r]) rfl rfl rfl rfl rfl (L_Mo_policy 76 h2) ?_
    refine pmSeg_U (pc' := 516) (ls' := [some (.float 0), some (.ref 0), some (.ref 112), some (.int i)]) (st' := [.int r, .int r]) 0 rfl ?_
    refine pu_icmp (tg := 653) rfl rfl (fun _ => ?_) (fun q => absurd (decide_eq_true rfl) q)
    refine pmSeg_U (pc' := 18) (ls' := [some (.float 0), some (.ref 0), some (.ref 112), some (.int (i + 4))]) (st' := []) 2 rfl ?_
    exact K
  by_cases e11 : (xs i.toNatClampNeg &&& 15) = 11
  · obtain ⟨r, σ1, τ1, h1, h2, hR1⟩ := H_ask σ τ n hR hn (xs (i + 1).toNatClampNeg) (xs (i + 2).toNatClampNeg) (xs (i + 3).toNatClampNeg)
    obtain ⟨σ', τ', K⟩ := next σ1 τ1 hR1
    refine ⟨σ', τ', ?_⟩
    refine pmSeg_U (pc' := 28) (ls' := [some (.float 0), some (.ref 0), some (.ref 112), some (.int i)]) (st' := [.int i, .float 0]) 2 rfl ?_
    refine pu_sld rfl g0 ?_
    refine pmSeg_U (pc' := 32) (ls' := [some (.float 0), some (.ref 0), some (.ref 112), some (.int i)]) (st' := [.int (xs i.toNatClampNeg &&& 15)]) 2 rfl ?_
    refine pu_sw (v := 11) (tg := 521) e11 rfl rfl rfl ?_
    refine pmSeg_U (pc' := 526) (ls' := [some (.float 0), some (.ref 0), some (.ref 112), some (.int i)]) (st' := [.int (i + 1), .float 0, .ref 0]) 5 rfl ?_
    refine pu_sld rfl g1 ?_
    refine pmSeg_U (pc' := 531) (ls' := [some (.float 0), some (.ref 0), some (.ref 112), some (.int i)]) (st' := [.int (i + 2), .float 0, .int (xs (i + 1).toNatClampNeg), .ref 0]) 4 rfl ?_
    refine pu_sld rfl g2 ?_
    refine pmSeg_U (pc' := 536) (ls' := [some (.float 0), some (.ref 0), some (.ref 112), some (.int i)]) (st' := [.int (i + 3), .float 0, .int (xs (i + 2).toNatClampNeg), .int (xs (i + 1).toNatClampNeg), .ref 0]) 4 rfl ?_
    refine pu_sld rfl g3 ?_
    refine pmSeg_U (pc' := 537) (ls' := [some (.float 0), some (.ref 0), some (.ref 112), some (.int i)]) (st' := [.int (xs (i + 3).toNatClampNeg), .int (xs (i + 2).toNatClampNeg), .int (xs (i + 1).toNatClampNeg), .ref 0]) 0 rfl ?_
    refine pmU_C (av := [.ref 0, .int (xs (i + 1).toNatClampNeg), .int (xs (i + 2).toNatClampNeg), .int (xs (i + 3).toNatClampNeg)]) (rest := []) rfl rfl rfl rfl rfl (L_Ps_ask 74 h1) ?_
    refine pmSeg_U (pc' := 545) (ls' := [some (.float 0), some (.ref 0), some (.ref 112), some (.int i)]) (st' := [.int (i + 1), .float 0, .ref 112, .int r]) 5 rfl ?_
    refine pu_sld rfl g1 ?_
    refine pmSeg_U (pc' := 550) (ls' := [some (.float 0), some (.ref 0), some (.ref 112), some (.int i)]) (st' := [.int (i + 2), .float 0, .int (xs (i + 1).toNatClampNeg), .ref 112, .int r]) 4 rfl ?_
    refine pu_sld rfl g2 ?_
    refine pmSeg_U (pc' := 555) (ls' := [some (.float 0), some (.ref 0), some (.ref 112), some (.int i)]) (st' := [.int (i + 3), .float 0, .int (xs (i + 2).toNatClampNeg), .int (xs (i + 1).toNatClampNeg), .ref 112, .int r]) 4 rfl ?_
    refine pu_sld rfl g3 ?_
    refine pmSeg_U (pc' := 556) (ls' := [some (.float 0), some (.ref 0), some (.ref 112), some (.int i)]) (st' := [.int (xs (i + 3).toNatClampNeg), .int (xs (i + 2).toNatClampNeg), .int (xs (i + 1).toNatClampNeg), .ref 112, .int r]) 0 rfl ?_
    refine pmU_C (av := [.ref 112, .int (xs (i + 1).toNatClampNeg), .int (xs (i + 2).toNatClampNeg), .int (xs (i + 3).toNatClampNeg)]) (rest := [.int r]) rfl rfl rfl rfl rfl (L_Mo_ask 75 h2) ?_
    refine pmSeg_U (pc' := 559) (ls' := [some (.float 0), some (.ref 0), some (.ref 112), some (.int i)]) (st' := [.int r, .int r]) 0 rfl ?_
    refine pu_icmp (tg := 653) rfl rfl (fun _ => ?_) (fun q => absurd (decide_eq_true rfl) q)
    refine pmSeg_U (pc' := 18) (ls' := [some (.float 0), some (.ref 0), some (.ref 112), some (.int (i + 4))]) (st' := []) 2 rfl ?_
    exact K
  by_cases e12 : (xs i.toNatClampNeg &&& 15) = 12
  · obtain ⟨r, σ1, τ1, h1, h2, hR1⟩ := H_allows σ τ n hR hn (xs (i + 1).toNatClampNeg) (xs (i + 2).toNatClampNeg)
    obtain ⟨σ', τ', K⟩ := next σ1 τ1 hR1
    refine ⟨σ', τ', ?_⟩
    refine pmSeg_U (pc' := 28) (ls' := [some (.float 0), some (.ref 0), some (.ref 112), some (.int i)]) (st' := [.int i, .float 0]) 2 rfl ?_
    refine pu_sld rfl g0 ?_
    refine pmSeg_U (pc' := 32) (ls' := [some (.float 0), some (.ref 0), some (.ref 112), some (.int i)]) (st' := [.int (xs i.toNatClampNeg &&& 15)]) 2 rfl ?_
    refine pu_sw (v := 12) (tg := 564) e12 rfl rfl rfl ?_
    refine pmSeg_U (pc' := 569) (ls' := [some (.float 0), some (.ref 0), some (.ref 112), some (.int i)]) (st' := [.int (i + 1), .float 0, .ref 0]) 5 rfl ?_
    refine pu_sld rfl g1 ?_
    refine pmSeg_U (pc' := 574) (ls' := [some (.float 0), some (.ref 0), some (.ref 112), some (.int i)]) (st' := [.int (i + 2), .float 0, .int (xs (i + 1).toNatClampNeg), .ref 0]) 4 rfl ?_
    refine pu_sld rfl g2 ?_
    refine pmSeg_U (pc' := 575) (ls' := [some (.float 0), some (.ref 0), some (.ref 112), some (.int i)]) (st' := [.int (xs (i + 2).toNatClampNeg), .int (xs (i + 1).toNatClampNeg), .ref 0]) 0 rfl ?_
    refine pmU_C (av := [.ref 0, .int (xs (i + 1).toNatClampNeg), .int (xs (i + 2).toNatClampNeg)]) (rest := []) rfl rfl rfl rfl rfl (L_Ps_allows 73 h1) ?_
    refine pmSeg_U (pc' := 583) (ls' := [some (.float 0), some (.ref 0), some (.ref 112), some (.int i)]) (st' := [.int (i + 1), .float 0, .ref 112, .int r]) 5 rfl ?_
    refine pu_sld rfl g1 ?_
    refine pmSeg_U (pc' := 588) (ls' := [some (.float 0), some (.ref 0), some (.ref 112), some (.int i)]) (st' := [.int (i + 2), .float 0, .int (xs (i + 1).toNatClampNeg), .ref 112, .int r]) 4 rfl ?_
    refine pu_sld rfl g2 ?_
    refine pmSeg_U (pc' := 589) (ls' := [some (.float 0), some (.ref 0), some (.ref 112), some (.int i)]) (st' := [.int (xs (i + 2).toNatClampNeg), .int (xs (i + 1).toNatClampNeg), .ref 112, .int r]) 0 rfl ?_
    refine pmU_C (av := [.ref 112, .int (xs (i + 1).toNatClampNeg), .int (xs (i + 2).toNatClampNeg)]) (rest := [.int r]) rfl rfl rfl rfl rfl (L_Mo_allows 75 h2) ?_
    refine pmSeg_U (pc' := 592) (ls' := [some (.float 0), some (.ref 0), some (.ref 112), some (.int i)]) (st' := [.int r, .int r]) 0 rfl ?_
    refine pu_icmp (tg := 653) rfl rfl (fun _ => ?_) (fun q => absurd (decide_eq_true rfl) q)
    refine pmSeg_U (pc' := 18) (ls' := [some (.float 0), some (.ref 0), some (.ref 112), some (.int (i + 4))]) (st' := []) 2 rfl ?_
    exact K
  by_cases e13 : (xs i.toNatClampNeg &&& 15) = 13
  · obtain ⟨r, σ1, τ1, h1, h2, hR1⟩ := H_compare σ τ n hR hn (xs (i + 1).toNatClampNeg)
    obtain ⟨σ', τ', K⟩ := next σ1 τ1 hR1
    refine ⟨σ', τ', ?_⟩
    refine pmSeg_U (pc' := 28) (ls' := [some (.float 0), some (.ref 0), some (.ref 112), some (.int i)]) (st' := [.int i, .float 0]) 2 rfl ?_
    refine pu_sld rfl g0 ?_
    refine pmSeg_U (pc' := 32) (ls' := [some (.float 0), some (.ref 0), some (.ref 112), some (.int i)]) (st' := [.int (xs i.toNatClampNeg &&& 15)]) 2 rfl ?_
    refine pu_sw (v := 13) (tg := 597) e13 rfl rfl rfl ?_
    refine pmSeg_U (pc' := 602) (ls' := [some (.float 0), some (.ref 0), some (.ref 112), some (.int i)]) (st' := [.int (i + 1), .float 0, .ref 0]) 5 rfl ?_
    refine pu_sld rfl g1 ?_
    refine pmSeg_U (pc' := 603) (ls' := [some (.float 0), some (.ref 0), some (.ref 112), some (.int i)]) (st' := [.int (xs (i + 1).toNatClampNeg), .ref 0]) 0 rfl ?_
    refine pmU_C (av := [.ref 0, .int (xs (i + 1).toNatClampNeg)]) (rest := []) rfl rfl rfl rfl rfl (L_Ps_compare 73 h1) ?_
    refine pmSeg_U (pc' := 611) (ls' := [some (.float 0), some (.ref 0), some (.ref 112), some (.int i)]) (st' := [.int (i + 1), .float 0, .ref 112, .int r]) 5 rfl ?_
    refine pu_sld rfl g1 ?_
    refine pmSeg_U (pc' := 612) (ls' := [some (.float 0), some (.ref 0), some (.ref 112), some (.int i)]) (st' := [.int (xs (i + 1).toNatClampNeg), .ref 112, .int r]) 0 rfl ?_
    refine pmU_C (av := [.ref 112, .int (xs (i + 1).toNatClampNeg)]) (rest := [.int r]) rfl rfl rfl rfl rfl (L_Mo_compare 75 h2) ?_
    refine pmSeg_U (pc' := 615) (ls' := [some (.float 0), some (.ref 0), some (.ref 112), some (.int i)]) (st' := [.int r, .int r]) 0 rfl ?_
    refine pu_icmp (tg := 653) rfl rfl (fun _ => ?_) (fun q => absurd (decide_eq_true rfl) q)
    refine pmSeg_U (pc' := 18) (ls' := [some (.float 0), some (.ref 0), some (.ref 112), some (.int (i + 4))]) (st' := []) 2 rfl ?_
    exact K
  by_cases e14 : (xs i.toNatClampNeg &&& 15) = 14
  · obtain ⟨r, σ1, τ1, h1, h2, hR1⟩ := H_needless σ τ n hR hn (xs (i + 1).toNatClampNeg) (xs (i + 2).toNatClampNeg)
    obtain ⟨σ', τ', K⟩ := next σ1 τ1 hR1
    refine ⟨σ', τ', ?_⟩
    refine pmSeg_U (pc' := 28) (ls' := [some (.float 0), some (.ref 0), some (.ref 112), some (.int i)]) (st' := [.int i, .float 0]) 2 rfl ?_
    refine pu_sld rfl g0 ?_
    refine pmSeg_U (pc' := 32) (ls' := [some (.float 0), some (.ref 0), some (.ref 112), some (.int i)]) (st' := [.int (xs i.toNatClampNeg &&& 15)]) 2 rfl ?_
    refine pu_sw (v := 14) (tg := 620) e14 rfl rfl rfl ?_
    refine pmSeg_U (pc' := 625) (ls' := [some (.float 0), some (.ref 0), some (.ref 112), some (.int i)]) (st' := [.int (i + 1), .float 0, .ref 0]) 5 rfl ?_
    refine pu_sld rfl g1 ?_
    refine pmSeg_U (pc' := 630) (ls' := [some (.float 0), some (.ref 0), some (.ref 112), some (.int i)]) (st' := [.int (i + 2), .float 0, .int (xs (i + 1).toNatClampNeg), .ref 0]) 4 rfl ?_
    refine pu_sld rfl g2 ?_
    refine pmSeg_U (pc' := 631) (ls' := [some (.float 0), some (.ref 0), some (.ref 112), some (.int i)]) (st' := [.int (xs (i + 2).toNatClampNeg), .int (xs (i + 1).toNatClampNeg), .ref 0]) 0 rfl ?_
    refine pmU_C (av := [.ref 0, .int (xs (i + 1).toNatClampNeg), .int (xs (i + 2).toNatClampNeg)]) (rest := []) rfl rfl rfl rfl rfl (L_Ps_needless 73 h1) ?_
    refine pmSeg_U (pc' := 639) (ls' := [some (.float 0), some (.ref 0), some (.ref 112), some (.int i)]) (st' := [.int (i + 1), .float 0, .ref 112, .int r]) 5 rfl ?_
    refine pu_sld rfl g1 ?_
    refine pmSeg_U (pc' := 644) (ls' := [some (.float 0), some (.ref 0), some (.ref 112), some (.int i)]) (st' := [.int (i + 2), .float 0, .int (xs (i + 1).toNatClampNeg), .ref 112, .int r]) 4 rfl ?_
    refine pu_sld rfl g2 ?_
    refine pmSeg_U (pc' := 645) (ls' := [some (.float 0), some (.ref 0), some (.ref 112), some (.int i)]) (st' := [.int (xs (i + 2).toNatClampNeg), .int (xs (i + 1).toNatClampNeg), .ref 112, .int r]) 0 rfl ?_
    refine pmU_C (av := [.ref 112, .int (xs (i + 1).toNatClampNeg), .int (xs (i + 2).toNatClampNeg)]) (rest := [.int r]) rfl rfl rfl rfl rfl (L_Mo_needless 75 h2) ?_
    refine pmSeg_U (pc' := 648) (ls' := [some (.float 0), some (.ref 0), some (.ref 112), some (.int i)]) (st' := [.int r, .int r]) 0 rfl ?_
    refine pu_icmp (tg := 653) rfl rfl (fun _ => ?_) (fun q => absurd (decide_eq_true rfl) q)
    refine pmSeg_U (pc' := 18) (ls' := [some (.float 0), some (.ref 0), some (.ref 112), some (.int (i + 4))]) (st' := []) 2 rfl ?_
    exact K
  obtain ⟨σ', τ', K⟩ := next σ τ (up σ τ n hR)
  refine ⟨σ', τ', ?_⟩
  refine pmSeg_U (pc' := 28) (ls' := [some (.float 0), some (.ref 0), some (.ref 112), some (.int i)]) (st' := [.int i, .float 0]) 2 rfl ?_
  refine pu_sld rfl g0 ?_
  refine pmSeg_U (pc' := 32) (ls' := [some (.float 0), some (.ref 0), some (.ref 112), some (.int i)]) (st' := [.int (xs i.toNatClampNeg &&& 15)]) 2 rfl ?_
  refine pu_tswD (tg := 653) rfl rfl ⟨Or.inr (lv_neT e0 rfl), Or.inr (lv_neT e1 rfl), Or.inr (lv_neT e2 rfl), Or.inr (lv_neT e3 rfl), Or.inr (lv_neT e4 rfl), Or.inr (lv_neT e5 rfl), Or.inr (lv_neT e6 rfl), Or.inr (lv_neT e7 rfl), Or.inr (lv_neT e8 rfl), Or.inr (lv_neT e9 rfl), Or.inr (lv_neT e10 rfl), Or.inr (lv_neT e11 rfl), Or.inr (lv_neT e12 rfl), Or.inr (lv_neT e13 rfl), Or.inr (lv_neT e14 rfl), trivial⟩ rfl ?_
  refine pmSeg_U (pc' := 18) (ls' := [some (.float 0), some (.ref 0), some (.ref 112), some (.int (i + 4))]) (st' := []) 2 rfl ?_
  exact K
theorem ex_t {L t : Nat} (hL : L ≤ 2048) (ht : 4 * t ≤ 2048) : (nI L - 4 < nI (4 * t)) ↔ L < 4 * t + 4 := by
  rw [Int32.lt_iff_toInt_lt, show (4 : Int32) = nI 4 from rfl, pk_sub_toInt (by omega) (by omega), nI_toInt (by omega)]
  omega
theorem lw_loop {Rel : Mem → Mem → Nat → Prop} (up : ∀ σ τ n, Rel σ τ n → Rel σ τ (n + 1)) (H_join : Stp_join Rel) (H_leave : Stp_leave Rel) (H_mark : Stp_mark Rel) (H_thing : Stp_thing Rel) (H_isIn : Stp_isIn Rel) (H_put : Stp_put Rel) (H_wipe : Stp_wipe Rel) (H_add : Stp_add Rel) (H_drop : Stp_drop Rel) (H_size : Stp_size Rel) (H_policy : Stp_policy Rel) (H_ask : Stp_ask Rel) (H_allows : Stp_allows Rel) (H_compare : Stp_compare Rel) (H_needless : Stp_needless Rel) {L : Nat} (xs : Nat → Int32) (hL : L ≤ 2048) : ∀ (k t : Nat) (σ τ : Mem), L < 4 * (t + k) → 4 * t ≤ L + 3 → Rel σ τ t → ∃ σ' τ' : Mem, pmU (L + 1, xs) 80 0 18 [some (.float 0), some (.ref 0), some (.ref 112), some (.int (nI (4 * t)))] [] (shH σ τ) (some (.int 1)) (shH σ' τ') := by
  intro k
  induction k with
  | zero =>
    intro t σ τ h1 h2 hR
    refine ⟨σ, τ, ?_⟩
    refine pmSeg_U (pc' := 23) (ls' := [some (.float 0), some (.ref 0), some (.ref 112), some (.int (nI (4 * t)))]) (st' := [.int (nI L - 4), .int (nI (4 * t))]) 5 rfl ?_
    refine pu_icmp (c := .gt) (tg := 659) rfl rfl (fun _ => ?_) (fun q => absurd (decide_eq_true ((ex_t hL (by omega)).mpr (by omega))) q)
    refine pmSeg_U (pc' := 660) (ls' := [some (.float 0), some (.ref 0), some (.ref 112), some (.int (nI (4 * t)))]) (st' := [.int 1]) 1 rfl ?_
    exact pmU_T rfl rfl rfl rfl rfl rfl
  | succ k ih =>
    intro t σ τ h1 h2 hR
    by_cases hx : 4 * t + 4 ≤ L
    · have gi : ∀ q, q < 4 → pmIn (nI (4 * t) + nI q) L = true := fun q hq => by
        rw [nI_add]
        unfold pmIn
        rw [nI_clamp (by omega)]
        simp only [Bool.and_eq_true, Bool.not_eq_true', decide_eq_false_iff_not, Nat.blt_eq]
        exact ⟨nI_pos (by omega), by omega⟩
      have g0 : pmIn (nI (4 * t)) L = true := by
        have := gi 0 (by omega)
        rwa [nI_add] at this
      obtain ⟨σ', τ', K⟩ := lw_iter (xs := xs) up H_join H_leave H_mark H_thing H_isIn H_put H_wipe H_add H_drop H_size H_policy H_ask H_allows H_compare H_needless hR (by omega) g0 (gi 1 (by omega)) (gi 2 (by omega)) (gi 3 (by omega)) (fun σ1 τ1 hR1 => by
        have := ih (t + 1) σ1 τ1 (by omega) (by omega) hR1
        rwa [show nI (4 * (t + 1)) = nI (4 * t) + 4 by rw [show (4 : Int32) = nI 4 from rfl, nI_add]; congr 1] at this)
      refine ⟨σ', τ', ?_⟩
      refine pmSeg_U (pc' := 23) (ls' := [some (.float 0), some (.ref 0), some (.ref 112), some (.int (nI (4 * t)))]) (st' := [.int (nI L - 4), .int (nI (4 * t))]) 5 rfl ?_
      refine pu_icmp (c := .gt) (tg := 659) rfl rfl (fun q => absurd ((ex_t hL (by omega)).mp (of_decide_eq_true q)) (by omega)) (fun _ => ?_)
      exact K
    · refine ⟨σ, τ, ?_⟩
      refine pmSeg_U (pc' := 23) (ls' := [some (.float 0), some (.ref 0), some (.ref 112), some (.int (nI (4 * t)))]) (st' := [.int (nI L - 4), .int (nI (4 * t))]) 5 rfl ?_
      refine pu_icmp (c := .gt) (tg := 659) rfl rfl (fun _ => ?_) (fun q => absurd (decide_eq_true ((ex_t hL (by omega)).mpr (by omega))) q)
      refine pmSeg_U (pc' := 660) (ls' := [some (.float 0), some (.ref 0), some (.ref 112), some (.int (nI (4 * t)))]) (st' := [.int 1]) 1 rfl ?_
      exact pmU_T rfl rfl rfl rfl rfl rfl
theorem whole_open {Rel : Mem → Mem → Nat → Prop} (up : ∀ σ τ n, Rel σ τ n → Rel σ τ (n + 1)) (H_join : Stp_join Rel) (H_leave : Stp_leave Rel) (H_mark : Stp_mark Rel) (H_thing : Stp_thing Rel) (H_isIn : Stp_isIn Rel) (H_put : Stp_put Rel) (H_wipe : Stp_wipe Rel) (H_add : Stp_add Rel) (H_drop : Stp_drop Rel) (H_size : Stp_size Rel) (H_policy : Stp_policy Rel) (H_ask : Stp_ask Rel) (H_allows : Stp_allows Rel) (H_compare : Stp_compare Rel) (H_needless : Stp_needless Rel) (R0 : Rel ini0 ini1 0) {p : Program} {e : Env} {s : State} {m : MethodId} {below : List Frame} {meth : Method} {c : Code} (l : Launch) {b L : Nat} {xs : Nat → Int32} (hL : L ≤ 2048) (C0 : lw_At p s m meth c b L xs) : W p l e room_1 s m #[Value.ref b] below meth c s.heap [] 0 0 (lw_Z below #[Value.ref b] s) (entryFrame m ([Value.ref b] : List Value).toArray 4) :=
  lw_begin l C0 (lw_loop up H_join H_leave H_mark H_thing H_isIn H_put H_wipe H_add H_drop H_size H_policy H_ask H_allows H_compare H_needless xs hL 513 0 ini0 ini1 (by omega) (by omega) R0)
