theorem inst_all : (List.range 8).all (fun ci => wAt (pnT ci) (.instantiable (cnT ci) (nfT ci))) = true := by decide +kernel
theorem inst_ok {ci : Nat} (h : ci < nclT) : Cond.instantiable (cnT ci) (nfT ci) ∈ tbT := wAt_in (List.all_eq_true.mp inst_all ci (List.mem_range.mpr h))
theorem lw_K {s : State} {A : Array Value} (hts : ∀ w ∈ lw_tbl, w.before A s = true) : ∃ (D : va_G) (cI cZ cP : ClassId), va_K D clT (pmTys cI cZ cP) s ∧ va_AO rfnT s ∧ ∀ w ∈ nsT, va_Nw w s := by
  have hts' : ∀ w ∈ tbT, w.before A s = true := fun w h => hts w (List.mem_filter.mp h).1
  have hk : ∀ ci, ∃ q : ClassId × (Nat → Nat), ci < nclT → u_Kn s (cnT ci) (cT ci) (nfT ci) q.1 q.2 := by
    intro ci
    by_cases h : ci < nclT
    · obtain ⟨cC, iS, hq⟩ := u_known hts' (clT_ws h) (hts' _ (inst_ok h))
      exact ⟨(cC, iS), fun _ => hq⟩
    · exact ⟨(0, fun _ => 0), fun z => absurd z h⟩
  obtain ⟨cI, kI, pI, i1, i2, i3⟩ := Cond.arrayClass_spec (hts' _ arrI_ok)
  obtain ⟨cZ, kZ, pZ, z1, z2, z3⟩ := Cond.arrayClass_spec (hts' _ arrZ_ok)
  obtain ⟨pP, cP, kP, o1, o2, o3, o4, o5⟩ := Cond.arrayOver_spec (hts _ over_ok)
  refine ⟨(fun ci => (Classical.choose (hk ci)).1, fun ci => (Classical.choose (hk ci)).2), cI, cZ, cP, ⟨fun ci q hq => ?_, fun k q hq => ?_⟩, ?_, ?_⟩
  · have hlt : ci < nclT := by
      have h8 := (List.getElem?_eq_some_iff.mp hq).1
      have h9 : ci < 8 := by simpa [clT] using h8
      exact h9
    rw [clT_at hlt] at hq
    cases hq
    exact Classical.choose_spec (hk ci) hlt
  · match k, hq with
    | 0, hq => cases hq; exact ⟨fun n z => ⟨fun k h => (by cases h), kI, i2, pI, i3⟩, i1⟩
    | 1, hq => cases hq; exact ⟨fun n z => ⟨fun k h => (by cases h), kZ, z2, pZ, z3⟩, z1⟩
    | 2, hq => cases hq; exact ⟨fun n z => ⟨fun k h => (by cases h), kP, o3, pP, o4⟩, kP, pP, o3, o4, o1, o5⟩
    | k + 3, hq => cases hq
  · exact va_AO.of (hts _ over_ok)
  · intro w hw
    have h1 := hts w (List.mem_filter.mp hw).1
    rcases nsT_kind w hw with ⟨a, i, b, n, d, q, rfl⟩ | ⟨a, i, x, q, rfl⟩
    · exact va_Nw.of rfl h1
    · exact va_Nw.of rfl h1
theorem arr_congr {cA : ClassId} {n : Nat} {f g : Nat → Value} (h : ∀ j, j < n → f j = g j) : arrV cA n f = arrV cA n g := by
  unfold arrV
  congr 1
  exact congrArg Array.ofFn (funext fun j => h j.val j.isLt)
theorem cell_congr {D : va_G} {cI cZ cP : ClassId} {a0 b a : Nat} {kd : Nat × Nat} {f g : Nat → Value} {H : Heap} (h : ∀ j, j < kd.2 → f j = g j) (hf : va_at D clT (a, pmCell cI cZ cP a0 b kd f) H) : va_at D clT (a, pmCell cI cZ cP a0 b kd g) H := by
  obtain ⟨t, n⟩ := kd
  match t, hf with
  | 0, hf => exact hf
  | 1, hf =>
    have e : vp_cell cI (n, .inl (fun j => pmVI (g j))) = vp_cell cI (n, .inl (fun j => pmVI (f j))) := by
      rw [vp_cell_i, vp_cell_i]
      exact arr_congr fun j hj => by rw [h j hj]
    show H[a]? = some (vp_cell cI (n, .inl (fun j => pmVI (g j))))
    rw [e]
    exact hf
  | 2, hf =>
    have e : vp_cell cZ (n, .inl (fun j => pmVI (g j))) = vp_cell cZ (n, .inl (fun j => pmVI (f j))) := by
      rw [vp_cell_i, vp_cell_i]
      exact arr_congr fun j hj => by rw [h j hj]
    show H[a]? = some (vp_cell cZ (n, .inl (fun j => pmVI (g j))))
    rw [e]
    exact hf
  | 3, hf =>
    have e : vp_cell cP (n, .inr (.inr (.inr (.inr (fun j => (pmVR (g j)).map (fun q => a0 + q)))))) = vp_cell cP (n, .inr (.inr (.inr (.inr (fun j => (pmVR (f j)).map (fun q => a0 + q)))))) := by
      rw [vp_cell_q, vp_cell_q]
      exact arr_congr fun j hj => by rw [h j hj]
    show H[a]? = some (vp_cell cP (n, .inr (.inr (.inr (.inr (fun j => (pmVR (g j)).map (fun q => a0 + q)))))))
    rw [e]
    exact hf
  | t + 4, hf =>
    have e : pmCell cI cZ cP a0 b (t + 4, n) g = pmCell cI cZ cP a0 b (t + 4, n) f := by
      show Sum.inr (t, (List.range n).map (fun k => pmCv a0 b (g k))) = Sum.inr (t, (List.range n).map (fun k => pmCv a0 b (f k)))
      have e2 : (List.range n).map (fun k => pmCv a0 b (g k)) = (List.range n).map (fun k => pmCv a0 b (f k)) := List.map_congr_left (fun k hk => by rw [h k (List.mem_range.mp hk)])
      rw [e2]
    rw [e]
    exact hf
theorem pmInv_congr {D : va_G} {cI cZ cP : ClassId} {a0 b w0 : Nat} {s : State} {K : pmK} {V V' : pmV} {H : Heap} {locs : List Loc} {cells slots : Nat} (hv : ∀ c kd, K[c]? = some kd → ∀ k, k < kd.2 → V c k = V' c k) (h : pmInv D cI cZ cP a0 b w0 s (K, V) H locs cells slots) : pmInv D cI cZ cP a0 b w0 s (K, V') H locs cells slots := by
  obtain ⟨hP, hS, h1, h2⟩ := h
  refine ⟨fun k q hq => ?_, hS, h1, h2⟩
  have hlt := (pmPic_fst hq).1
  obtain ⟨kd, hk⟩ : ∃ kd, K[k]? = some kd := ⟨_, List.getElem?_eq_getElem hlt⟩
  rw [pmPic_at (h := (K, V')) hk] at hq
  cases hq
  exact cell_congr (hv k kd hk) (hP k _ (pmPic_at (h := (K, V)) hk))
def pmSt1 (S : pmS) (cl : Nat → List Value → pmH → Option Value → pmH → Prop) (j pc : Nat) (ls : pmLs) (st : List Value) (h : pmH) (pc' : Nat) (ls' : pmLs) (st' : List Value) (h' : pmH) : Prop := match codT j pc with
  | none => False
  | some (ins, len) => match pm1 j ins ls st with
    | some a => pc' = pc + len ∧ ls' = a.1 ∧ st' = a.2 ∧ h' = h
    | none => match pm2 ins pc st with
      | some a => pc' = a.1 ∧ ls' = ls ∧ st' = a.2 ∧ h' = h
      | none => match pm3 S j ins st h with
        | some a => pc' = pc + len ∧ ls' = ls ∧ st' = a.1 ∧ h' = a.2
        | none => match pmC j ins st h.1 with
          | some a => ∃ (v : Option Value) (h1 : pmH), cl a.1 a.2.1 h v h1 ∧ pc' = pc + len ∧ ls' = ls ∧ st' = v.toList ++ a.2.2 ∧ h' = h1
          | none => False
section PME
variable {p : Program} {l : Launch} {e : Env} {R : Room} {s : State} {m : MethodId} {args : Array Value} {below : List Frame} {meth : Method} {c : Code} {H : Heap} {locs : List Loc} {cells slots : Nat} {Q : State → Prop}
variable {D : va_G} {cI cZ cP : ClassId} {pc pc' len a0 b w0 j : Nat} {S : pmS} {LS : Array Slot} {ls ls' : pmLs} {st st' : List Value} {h h' : pmH} {ins : Instr}
set_option maxHeartbeats 4000000 in
theorem pm_step {d : Nat} (IH : pmMet l D cI cZ cP a0 b S d) (hC : pmCtx p s m args meth c D cI cZ cP a0 b S j) (hfr : d + 1 ≤ R.frames) (hlo : 60 * d + 60 ≤ R.locals) (hr1 : a0 + h'.1.length ≤ s.heap.size + R.cells) (hr2 : pmWt h'.1 ≤ w0 + R.slots)
    (hh : pmSt1 S (pmX S d) j pc ls st h pc' ls' st' h') (hls : pmLsR a0 b LS ls) (hll : ls.length = mxlT j) (hI : pmInv D cI cZ cP a0 b w0 s h H locs cells slots)
    (k : ∀ (LS' : Array Slot) (H' : Heap) (locs' : List Loc) (cells' slots' : Nat), pmLsR a0 b LS' ls' → ls'.length = mxlT j → pmInv D cI cZ cP a0 b w0 s h' H' locs' cells' slots' → W p l e R s m args below meth c H' locs' cells' slots' Q (F0 m pc' LS' (st'.map (pmCv a0 b)))) : W p l e R s m args below meth c H locs cells slots Q (F0 m pc LS (st.map (pmCv a0 b))) := by
  have hC0 := hC
  obtain ⟨hx, hb, hml, hown, hts, hns, hAO, hK, hX, hba, hA0, hini⟩ := hC
  unfold pmSt1 at hh
  split at hh
  · exact hh.elim
  · rename_i ins len hcod
    obtain ⟨hd, hn⟩ := codT_ok hcod
    split at hh
    · rename_i a ha
      obtain ⟨ls2, st2⟩ := a
      obtain ⟨rfl, rfl, rfl, rfl⟩ := hh
      exact pm1_W hx hb hown hts hd hn ha hls (fun LS' hl' => k _ _ _ _ _ hl' ((pm1_len ha).trans hll) hI)
    · split at hh
      · rename_i a ha
        obtain ⟨pc2, st2⟩ := a
        obtain ⟨rfl, rfl, rfl, rfl⟩ := hh
        exact pm2_W hx hb hd hn ha (k _ _ _ _ _ hls hll hI)
      · split at hh
        · rename_i a ha
          obtain ⟨st2, h2⟩ := a
          obtain ⟨rfl, rfl, rfl, rfl⟩ := hh
          exact pm3_W hC0 hd hn hI (hls.1.trans hll) (by omega) (by omega) hr1 hr2 ha (fun H1 locs1 cells1 slots1 hI1 => k _ _ _ _ _ hls hll hI1)
        · split at hh
          · rename_i a ha
            obtain ⟨j2, av, rest⟩ := a
            obtain ⟨v, h1, hcl, rfl, rfl, rfl, rfl⟩ := hh
            have hm2 := pmX_mono _ _ _ _ _ _ hcl
            obtain ⟨hP, hS, hc1, hc2⟩ := hI
            refine pm_size fun hz => ?_
            have hm5 := hm2.1
            have hm6 := hm2.2
            refine pm_invoke hC0 hd hn ⟨hP, hS, hc1, hc2⟩ (hls.1.trans hll) hfr hlo hz (by omega) (by omega) ha (fun hj => IH _ _ _ _ _ hj hcl) (fun t locs1 hp hs1 => ?_)
            have e : (v.map (pmCv a0 b)).toList ++ rest.map (pmCv a0 b) = (v.toList ++ rest).map (pmCv a0 b) := by cases v <;> rfl
            rw [e]
            exact k _ _ _ _ _ hls hll ⟨hp.1, hs1, by omega, by omega⟩
          · exact hh.elim
end PME
