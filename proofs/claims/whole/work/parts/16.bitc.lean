theorem L_bitc {S : pmS} (d : Nat) {x : Int32} {h0 : pmH} : pmX S (d + 1) 87 [.int x] h0 (some (.int (bitc x))) h0 := by
  refine pmU_X rfl ?_
  refine pmSeg_U (pc' := 10) (ls' := [some (.int (bc1 x))]) (st' := []) 8 rfl ?_
  show pmU S d 87 10 [some (.int (bc1 x))] [] h0 (some (.int (bc5 (bc4 (bc3 (bc2 (bc1 x)))) &&& 63))) h0
  generalize bc1 x = x1
  refine pmSeg_U (pc' := 24) (ls' := [some (.int (bc2 x1))]) (st' := []) 10 rfl ?_
  generalize bc2 x1 = x2
  refine pmSeg_U (pc' := 34) (ls' := [some (.int (bc3 x2))]) (st' := []) 8 rfl ?_
  generalize bc3 x2 = x3
  refine pmSeg_U (pc' := 41) (ls' := [some (.int (bc4 x3))]) (st' := []) 6 rfl ?_
  generalize bc4 x3 = x4
  refine pmSeg_U (pc' := 48) (ls' := [some (.int (bc5 x4))]) (st' := []) 6 rfl ?_
  generalize bc5 x4 = x5
  refine pmSeg_U (pc' := 52) (ls' := [some (.int x5)]) (st' := [.int (x5 &&& 63)]) 3 rfl ?_
  exact pmU_T rfl rfl rfl rfl rfl rfl
