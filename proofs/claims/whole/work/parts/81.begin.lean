theorem kd_small : kdT0.all (fun q => Nat.ble q.2 2720) = true := by decide +kernel
set_option maxRecDepth 20000 in
set_option maxHeartbeats 4000000 in
theorem lw_begin {p : Program} {e : Env} {s : State} {m : MethodId} {below : List Frame} {meth : Method} {c : Code} (l : Launch) {b L : Nat} {xs : Nat → Int32} (C0 : lw_At p s m meth c b L xs)
    (LP : ∃ σ' τ' : Mem, pmU (L + 1, xs) 80 0 18 [some (.float 0), some (.ref 0), some (.ref 112), some (.int 0)] [] (shH ini0 ini1) (some (.int 1)) (shH σ' τ')) :
    W p l e room_1 s m #[Value.ref b] below meth c s.heap [] 0 0 (lw_Z below #[Value.ref b] s) (entryFrame m ([Value.ref b] : List Value).toArray 4) := by
  obtain ⟨hx, hb, hr, hml, hown, hts, hX, hbl, hlocks, -⟩ := C0
  obtain ⟨D, cI, cZ, cP, hK, hAO, hns⟩ := lw_K hts
  obtain ⟨σ', τ', n, hR⟩ := LP
  have IH := pm_met l D cI cZ cP s.heap.size b (L + 1, xs) 80
  have hC : pmCtx p s m #[Value.ref b] meth c D cI cZ cP s.heap.size b (L + 1, xs) 0 := ⟨hx, hb, hml, hown, fun w hw => hts w (List.mem_filter.mp hw).1, hns, hAO, hK, hX, hbl, Nat.le_refl _, fun h => by cases h⟩
  obtain ⟨V1, e1⟩ := ckK_inv ck_C1k
  obtain ⟨V2, e2⟩ := ckK_inv ck_C2k
  have x1 : pmX (L + 1, xs) 80 1 [.ref 0] pmA1 none (kdT0.take 112, V1) := pmFx_X 80 1 _ _ _ _ e1
  have x2 : pmX (L + 1, xs) 80 101 [.ref 112] pmA2 none (kdT0.take 154, V2) := pmFx_X 80 101 _ _ _ _ e2
  rw [lg_entry_eq]
  refine pm_step (w0 := 0) (pc := 0) (pc' := 3) (st := []) (st' := [.ref 0]) (ls := pmEnt [.float 0] 4) (ls' := pmEnt [.float 0] 4) (h := ([], pmV0)) (h' := pmA1) IH hC (by decide) (by decide) (Nat.add_le_add_left (by decide) _) (by decide) (pmSt_3 (pc := 0) (len := 3) rfl rfl rfl rfl) (pmEnt_R (av := [.float 0]) (by decide)) rfl ⟨(fun k q hq => (by cases hq)), va_S.rf, rfl, rfl⟩ (fun LS H locs cells slots hls hll hI => ?_)
  refine pm_step (w0 := 0) (pc := 3) (pc' := 4) (st := [.ref 0]) (st' := [.ref 0, .ref 0]) (ls' := pmEnt [.float 0] 4) (h := pmA1) (h' := pmA1) IH hC (by decide) (by decide) (Nat.add_le_add_left (by decide) _) (by decide) (pmSt_1 (pc := 3) (len := 1) rfl rfl) hls hll hI (fun LS H locs cells slots hls hll hI => ?_)
  refine pm_step (w0 := 0) (pc := 4) (pc' := 7) (st := [.ref 0, .ref 0]) (st' := [.ref 0]) (ls' := pmEnt [.float 0] 4) (h := pmA1) (h' := (kdT0.take 112, V1)) IH hC (by decide) (by decide) (Nat.add_le_add_left (show (kdT0.take 112).length ≤ 600000 by decide +kernel) _) (show pmWt (kdT0.take 112) ≤ 0 + 7302250 by decide +kernel) (pmSt_C (pc := 4) (len := 3) rfl rfl rfl rfl rfl x1) hls hll hI (fun LS H locs cells slots hls hll hI => ?_)
  have hI := pmInv_congr (V_C1 e1) hI
  refine pm_step (w0 := 0) (pc := 7) (pc' := 8) (st := [.ref 0]) (st' := []) (ls' := [some (.float 0), some (.ref 0), none, none]) (h := (kdT0.take 112, iniV)) (h' := (kdT0.take 112, iniV)) IH hC (by decide) (by decide) (Nat.add_le_add_left (show (kdT0.take 112).length ≤ 600000 by decide +kernel) _) (show pmWt (kdT0.take 112) ≤ 0 + 7302250 by decide +kernel) (pmSt_1 (pc := 7) (len := 1) rfl rfl) hls hll hI (fun LS H locs cells slots hls hll hI => ?_)
  refine pm_step (w0 := 0) (pc := 8) (pc' := 11) (st := []) (st' := [.ref 112]) (ls' := [some (.float 0), some (.ref 0), none, none]) (h := (kdT0.take 112, iniV)) (h' := pmA2) IH hC (by decide) (by decide) (Nat.add_le_add_left (show pmA2.1.length ≤ 600000 by decide +kernel) _) (show pmWt pmA2.1 ≤ 0 + 7302250 by decide +kernel) (pmSt_3 (pc := 8) (len := 3) rfl rfl rfl rfl) hls hll hI (fun LS H locs cells slots hls hll hI => ?_)
  refine pm_step (w0 := 0) (pc := 11) (pc' := 12) (st := [.ref 112]) (st' := [.ref 112, .ref 112]) (ls' := [some (.float 0), some (.ref 0), none, none]) (h := pmA2) (h' := pmA2) IH hC (by decide) (by decide) (Nat.add_le_add_left (show pmA2.1.length ≤ 600000 by decide +kernel) _) (show pmWt pmA2.1 ≤ 0 + 7302250 by decide +kernel) (pmSt_1 (pc := 11) (len := 1) rfl rfl) hls hll hI (fun LS H locs cells slots hls hll hI => ?_)
  refine pm_step (w0 := 0) (pc := 12) (pc' := 15) (st := [.ref 112, .ref 112]) (st' := [.ref 112]) (ls' := [some (.float 0), some (.ref 0), none, none]) (h := pmA2) (h' := (kdT0.take 154, V2)) IH hC (by decide) (by decide) (Nat.add_le_add_left (show (kdT0.take 154).length ≤ 600000 by decide +kernel) _) (show pmWt (kdT0.take 154) ≤ 0 + 7302250 by decide +kernel) (pmSt_C (pc := 12) (len := 3) rfl rfl rfl rfl rfl x2) hls hll hI (fun LS H locs cells slots hls hll hI => ?_)
  have hI := pmInv_congr (V_C2 e2) hI
  have hI := pmInv_congr (V' := shp ini0 ini1) (fun c kd hc k hk => by
    obtain ⟨-, h2⟩ := take_at hc
    have h3 : kd ∈ kdT0 := List.mem_of_mem_take (List.mem_of_getElem? hc)
    have h4 := Nat.le_of_ble_eq_true (List.all_eq_true.mp kd_small kd h3)
    exact (shp_ini (by omega)).symm) hI
  have hI : pmInv D cI cZ cP s.heap.size b 0 s (shH ini0 ini1) H locs cells slots := hI
  refine pm_step (w0 := 0) (pc := 15) (pc' := 16) (st := [.ref 112]) (st' := []) (ls' := [some (.float 0), some (.ref 0), some (.ref 112), none]) (h := shH ini0 ini1) (h' := shH ini0 ini1) IH hC (by decide) (by decide) (Nat.add_le_add_left (show kdT0.length ≤ 600000 by decide +kernel) _) (show pmWt kdT0 ≤ 0 + 7302250 by decide +kernel) (pmSt_1 (pc := 15) (len := 1) rfl rfl) hls hll hI (fun LS H locs cells slots hls hll hI => ?_)
  refine pm_step (w0 := 0) (pc := 16) (pc' := 17) (st := []) (st' := [.int 0]) (ls' := [some (.float 0), some (.ref 0), some (.ref 112), none]) (h := shH ini0 ini1) (h' := shH ini0 ini1) IH hC (by decide) (by decide) (Nat.add_le_add_left (show kdT0.length ≤ 600000 by decide +kernel) _) (show pmWt kdT0 ≤ 0 + 7302250 by decide +kernel) (pmSt_1 (pc := 16) (len := 1) rfl rfl) hls hll hI (fun LS H locs cells slots hls hll hI => ?_)
  refine pm_step (w0 := 0) (pc := 17) (pc' := 18) (st := [.int 0]) (st' := []) (ls' := [some (.float 0), some (.ref 0), some (.ref 112), some (.int 0)]) (h := shH ini0 ini1) (h' := shH ini0 ini1) IH hC (by decide) (by decide) (Nat.add_le_add_left (show kdT0.length ≤ 600000 by decide +kernel) _) (show pmWt kdT0 ≤ 0 + 7302250 by decide +kernel) (pmSt_1 (pc := 17) (len := 1) rfl rfl) hls hll hI (fun LS H locs cells slots hls hll hI => ?_)
  refine pm_body (w0 := 0) (h' := shH σ' τ') IH hC (by decide) (by decide) (Nat.add_le_add_left (show kdT0.length ≤ 600000 by decide +kernel) _) (show pmWt kdT0 ≤ 0 + 7302250 by decide +kernel) ?_ n 18 _ [] _ LS H locs cells slots hR hls hll hI
  intro pc1 LS1 st1 ins1 len1 H1 locs1 cells1 slots1 hd hn ht hI1
  obtain ⟨hP1, hS1, c1, c2⟩ := hI1
  have k1 : kdT0.length = 154 := by decide +kernel
  have k2 : pmWt kdT0 ≤ 7302250 := by decide +kernel
  unfold pmT at ht
  split at ht
  · obtain rfl : 1 = len1 := hn.resolve_left (Nat.succ_ne_zero _)
    split at ht
    · rename_i v
      have hv : v = 1 := by
        split at ht
        · cases ht
          rfl
        · split at ht
          · cases ht
            rfl
          · cases ht
      subst hv
      refine va_forget (fun q hq => hS1.2.2 q hq) ?_
      refine W.widen (k := 600000) (n := 7302250) (by have c3 : s.heap.size + cells1 = s.heap.size + kdT0.length := c1; omega) (by have c4 : slots1 + 0 = pmWt kdT0 := c2; omega) ?_
      exact lw_ret hx hb hr hlocks hd
    · cases ht
  · split at ht
    · split at ht
      · cases ht
      · cases ht
    · cases ht
  · split at ht
    · split at ht
      · cases ht
      · cases ht
    · cases ht
  · cases ht
