theorem pm3_mono {S : pmS} {j : Nat} {ins : Instr} {st st' : List Value} {h h' : pmH} (hh : pm3 S j ins st h = some (st', h')) : h.1.length ≤ h'.1.length ∧ pmWt h.1 ≤ pmWt h'.1 := by
  have same : ∀ {a : pmH}, a = h → h.1.length ≤ a.1.length ∧ pmWt h.1 ≤ pmWt a.1 := fun e => by subst e; exact ⟨Nat.le_refl _, Nat.le_refl _⟩
  have put : ∀ {a : pmH} {V : pmV}, a = (h.1, V) → h.1.length ≤ a.1.length ∧ pmWt h.1 ≤ pmWt a.1 := fun e => by subst e; exact ⟨Nat.le_refl _, Nat.le_refl _⟩
  have app : ∀ {a : pmH} {V : pmV} {t n : Nat}, a = (h.1 ++ [(t, n)], V) → h.1.length ≤ a.1.length ∧ pmWt h.1 ≤ pmWt a.1 := fun e => by
    subst e
    refine ⟨?_, ?_⟩
    · show _ ≤ (h.1 ++ [_]).length
      rw [List.length_append]
      exact Nat.le_add_right _ _
    · show _ ≤ pmWt (h.1 ++ [_])
      rw [pmWt_app]
      exact Nat.le_add_right _ _
  unfold pm3 at hh
  split at hh
  · exact same (pmGet_inv hh).1
  · obtain ⟨_, _, _, _, -, -, -, -, -, e⟩ := pmSet_inv hh
    exact put e
  · exact same (pmArL_inv hh).1
  · exact same (pmArL_inv hh).1
  · obtain ⟨_, _, _, _, -, -, -, -, e⟩ := pmArS_inv hh
    exact put e
  · obtain ⟨_, _, _, _, -, -, -, -, e⟩ := pmArS_inv hh
    exact put e
  · exact same (pmRfL_inv hh).1
  · obtain ⟨_, _, _, _, -, -, -, -, e⟩ := pmRfS_inv hh
    exact put e
  · exact same (pmLen_inv hh).1
  · obtain ⟨_, -, -, e⟩ := pmNew_inv hh
    exact app e
  · split at hh
    · obtain ⟨_, _, -, -, -, -, e⟩ := pmNwA_inv hh
      exact app e
    · obtain ⟨_, _, -, -, -, -, e⟩ := pmNwA_inv hh
      exact app e
    · cases hh
  · split at hh
    · obtain ⟨_, _, -, -, -, -, e⟩ := pmNwA_inv hh
      exact app e
    · cases hh
  · exact same (pmObj_inv hh).1
  · cases hh
def pmMo (h h' : pmH) : Prop := h.1.length ≤ h'.1.length ∧ pmWt h.1 ≤ pmWt h'.1
theorem pmR_mono {S : pmS} {cl : Nat → List Value → pmH → Option Value → pmH → Prop} (hcl : ∀ j av h r h', cl j av h r h' → pmMo h h') {j : Nat} : ∀ (n pc : Nat) (ls : pmLs) (st : List Value) (h : pmH) (r : Option Value) (h' : pmH), pmR S cl j n pc ls st h r h' → pmMo h h' := by
  intro n
  induction n with
  | zero => intro pc ls st h r h' hh; exact hh.elim
  | succ n ih =>
    intro pc ls st h r h' hh
    unfold pmR at hh
    split at hh
    · exact hh.elim
    · split at hh
      · exact ih _ _ _ _ _ _ hh
      · split at hh
        · exact ih _ _ _ _ _ _ hh
        · split at hh
          · rename_i a ha
            have h1 := pm3_mono ha
            have h2 := ih _ _ _ _ _ _ hh
            exact ⟨Nat.le_trans h1.1 h2.1, Nat.le_trans h1.2 h2.2⟩
          · split at hh
            · obtain ⟨v, h1, hc, hh⟩ := hh
              have h1 := hcl _ _ _ _ _ hc
              have h2 := ih _ _ _ _ _ _ hh
              exact ⟨Nat.le_trans h1.1 h2.1, Nat.le_trans h1.2 h2.2⟩
            · rw [hh.2]
              exact ⟨Nat.le_refl _, Nat.le_refl _⟩
theorem pmX_mono {S : pmS} : ∀ (d j : Nat) (av : List Value) (h : pmH) (r : Option Value) (h' : pmH), pmX S d j av h r h' → pmMo h h' := by
  intro d
  induction d with
  | zero => intro j av h r h' hh; exact hh.elim
  | succ d ih =>
    intro j av h r h' hh
    obtain ⟨-, n, hh⟩ := hh
    exact pmR_mono ih _ _ _ _ _ _ _ hh
def pmWs (j : Nat) : List Cond := Cond.code (ynT j) (bytT j) (mxlT j) (rtyT j) :: tbT
def pmRm (d : Nat) (h h' : pmH) : Room := { frames := d, cells := h'.1.length - h.1.length, slots := pmWt h'.1 - pmWt h.1, locals := 60 * d }
def pmPre (D : va_G) (cI cZ cP : ClassId) (a0 b : Nat) (S : pmS) (h : pmH) (U : State) : Prop :=
  va_P D clT (pmPic cI cZ cP a0 b h) U.heap ∧ U.heap.size = a0 + h.1.length ∧ va_K D clT (pmTys cI cZ cP) U ∧ va_X b (S.1 - 1) S.2 U U.heap ∧ b < a0 ∧ va_AO rfnT U ∧ ∀ w ∈ nsT, va_Nw w U
def pmPost (D : va_G) (cI cZ cP : ClassId) (a0 b : Nat) (S : pmS) (r : Option Value) (h' : pmH) : Array Value → State → Outcome → State → Prop :=
  fun _ st oc t => (oc = .returned (r.map (pmCv a0 b)) ∧ pmPre D cI cZ cP a0 b S h' t) ∧ va_F (fun q => a0 ≤ q) st t
def pmMet (l : Launch) (D : va_G) (cI cZ cP : ClassId) (a0 b : Nat) (S : pmS) (d : Nat) : Prop :=
  ∀ (j : Nat) (av : List Value) (h : pmH) (r : Option Value) (h' : pmH), j < nmT → pmX S d j av h r h' →
    Met l (ynT j) (pmWs j) (pmRm d h h') (va_Pc (av.map (pmCv a0 b)) (pmPre D cI cZ cP a0 b S h)) (pmPost D cI cZ cP a0 b S r h') (h'.1.length - h.1.length) (pmWt h'.1 - pmWt h.1) (fun q => a0 ≤ q)
theorem pmCal_inv {kd j' : Nat} {o : Option (Nat × Nat)} {st av rest : List Value} {K : pmK} (h : pmCal kd o st K = some (j', av, rest)) : o = some (j', kd) ∧ st = av.reverse ++ rest ∧ av.length = narT j' ∧ (rest.map fun v => v.category).sum ≤ 8 ∧ (kd = 2 ∨ pmRcv kd j' av K = true) := by
  unfold pmCal at h
  split at h
  · cases h
  · split at h
    · rename_i hc
      simp only [Bool.and_eq_true, Bool.or_eq_true, beq_iff_eq] at hc
      cases h
      obtain ⟨⟨⟨h1, h2⟩, h3⟩, h4⟩ := hc
      refine ⟨by rw [h1], ?_, ?_, Nat.le_of_ble_eq_true h3, h4⟩
      · rw [List.reverse_reverse, List.take_append_drop]
      · rw [List.length_reverse, List.length_take]
        exact Nat.min_eq_left (Nat.le_of_ble_eq_true h2)
    · cases h
theorem pmRcv_inv {kd j' : Nat} {av : List Value} {K : pmK} (hk : kd ≠ 2) (h : pmRcv kd j' av K = true) : ∃ c tl, av = .ref c :: tl ∧ K[c]? = some (clsT j' + 4, nfT (clsT j')) := by
  unfold pmRcv at h
  split at h
  · split at h
    · rename_i hc
      simp only [Bool.and_eq_true, beq_iff_eq] at h
      rw [h.1, h.2] at hc
      exact ⟨_, _, rfl, hc⟩
    · cases h
  · exact absurd (by simpa using h) hk
theorem pm_nsW {s U : State} (hW : s.WarmedH U.vm) (h : ∀ w ∈ nsT, va_Nw w s) : ∀ w ∈ nsT, va_Nw w U := by
  intro w hw
  rcases nsT_kind w hw with ⟨a, i, b, n, d, q, rfl⟩ | ⟨a, i, x, q, rfl⟩
  · exact va_Nw.warmF hW (h _ hw)
  · exact va_Nw.warmM hW (h _ hw)
theorem pm_blind {D : va_G} {cI cZ cP : ClassId} {a0 b : Nat} {S : pmS} {h : pmH} {av : List Value} : FrameBlind (va_Pc av (pmPre D cI cZ cP a0 b S h)) := by
  intro a U g mk q
  obtain ⟨q0, q1, q2, q3, q4, q5, q6, q7⟩ := q
  refine ⟨q0, q1, q2, va_K.moved (u := U) (U := U.calling g mk a) (Vm.Alike.refl U.vm) q3, va_X.moved (u := U) (U := U.calling g mk a) (Vm.Alike.refl U.vm) q4, q5, va_AO.moved (u := U) (U := U.calling g mk a) (Vm.Alike.refl U.vm) q6, fun w hw => ?_⟩
  rcases nsT_kind w hw with ⟨a1, i, b1, n, d, q, rfl⟩ | ⟨a1, i, x, q, rfl⟩
  · exact va_tabs (u := U) (U := U.calling g mk a) rfl rfl (q7 _ hw)
  · exact va_tabs (u := U) (U := U.calling g mk a) rfl rfl (q7 _ hw)
section PMD
variable {p : Program} {l : Launch} {e : Env} {R : Room} {s : State} {m : MethodId} {args : Array Value} {below : List Frame} {meth : Method} {c : Code} {H : Heap} {locs : List Loc} {cells slots : Nat} {Q : State → Prop}
variable {D : va_G} {cI cZ cP : ClassId} {pc len a0 b w0 j mc ms : Nat} {S : pmS} {LS : Array Slot} {st st' : List Value} {ins : Instr} {h h' h1 : pmH} {r : Option Value}
theorem pm_call {st0 rest : List Value} {a : Array Value} (hr : va_Run p l e R s m args below meth c H locs cells slots mc ms (F0 m pc LS st0) rest (pmPost D cI cZ cP a0 b S r h1 a) (fun q => a0 ≤ q)) (hS : va_S (fun q => a0 ≤ q) s.heap H locs)
    (kk : ∀ (t : State) (locs1 : List Loc), pmPre D cI cZ cP a0 b S h1 t → va_S (fun q => a0 ≤ q) s.heap t.heap locs1 → W p l e R s m args below meth c t.heap locs1 (cells + mc) (slots + ms) Q (F0 m (pc + 3) LS ((r.map (pmCv a0 b)).toList ++ rest))) : W p l e R s m args below meth c H locs cells slots Q (F0 m pc LS st0) := by
  intro T hT X
  obtain ⟨v, st₀, t, T', L, h0, X', hL, e1, e2, ⟨⟨hv, hb⟩, hz, hk⟩, st⟩ := hr T hT X
  cases hv
  rw [h0] at hz hk
  obtain ⟨t2, a1, b1⟩ := kk t (locs ++ L) hb ⟨Nat.le_trans hS.1 hz, fun q h1 h2 => (hk q (Nat.lt_of_lt_of_le h1 hS.1) h2).trans (hS.2.1 q h1 h2), fun q hq => by
      rcases List.mem_append.mp hq with h | h
      · exact hS.2.2 q h
      · exact hL q h⟩ T' e1 X'
  exact ⟨t2, st t2 a1, b1⟩
theorem pm_low (hP : va_P D clT (pmPic cI cZ cP a0 b h) H) (hS : va_S (fun q => a0 ≤ q) s.heap H locs) (hA0 : a0 ≤ s.heap.size) : a0 + h.1.length ≤ H.size := by
  by_cases h0 : h.1.length = 0
  · rw [h0]
    exact Nat.le_trans hA0 hS.1
  · have hi : h.1.length - 1 < h.1.length := by omega
    obtain ⟨k0, hk⟩ : ∃ k0, h.1[h.1.length - 1]? = some k0 := ⟨_, List.getElem?_eq_getElem hi⟩
    have := (hP _ _ (pmPic_at hk)).lt
    have h2 : a0 + (h.1.length - 1) < H.size := this
    omega
theorem pm_pre (hC : pmCtx p s m args meth c D cI cZ cP a0 b S j) (hI : pmInv D cI cZ cP a0 b w0 s h H locs cells slots) (hz : H.size ≤ s.heap.size + cells) {U : State} (hU : U.heap = H) (hW : s.WarmedH U.vm) : pmPre D cI cZ cP a0 b S h U := by
  obtain ⟨hx, hb, hml, hown, hts, hns, hAO, hK, hX, hba, hA0, hini⟩ := hC
  obtain ⟨hP, hS, hc1, hc2⟩ := hI
  have h1 := pm_low hP hS hA0
  refine ⟨by rw [hU]; exact hP, by rw [hU]; omega, va_K.moved hW.alike hK, ?_, hba, va_AO.moved hW.alike hAO, pm_nsW hW hns⟩
  rw [hU]
  exact (hX.kept (hS.2.1 b (Nat.lt_of_lt_of_le hba hA0) (show ¬ a0 ≤ b by omega))).moved hW.alike
theorem pm_cat (rest : List Value) : ((rest.map (pmCv a0 b)).map fun v => v.category).sum = (rest.map fun v => v.category).sum := by
  rw [List.map_map, show ((fun v : Value => v.category) ∘ pmCv a0 b) = (fun v => v.category) from funext fun v => pmCv_cat a0 b v]
theorem pm_good {j' : Nat} (hw : Cond.code (ynT j') (bytT j') (mxlT j') (rtyT j') ∈ tbT) : GoodIn tbT (pmWs j') := by
  intro w h
  rcases List.mem_cons.mp h with rfl | h
  · exact ⟨hw, tbT_good _ hw⟩
  · exact ⟨h, tbT_good _ h⟩
set_option maxHeartbeats 4000000 in
theorem pm_invoke {d j' : Nat} {av rest : List Value} (hC : pmCtx p s m args meth c D cI cZ cP a0 b S j) (hd : decode (bytT j) pc = .ok (ins, len)) (hn : pmSz ins = 0 ∨ pmSz ins = len) (hI : pmInv D cI cZ cP a0 b w0 s h H locs cells slots) (hl : LS.size = mxlT j) (hfr : d + 1 ≤ R.frames) (hlo : 60 * d + 60 ≤ R.locals)
    (hz : H.size ≤ s.heap.size + cells) (hr1 : cells + (h1.1.length - h.1.length) ≤ R.cells) (hr2 : slots + (pmWt h1.1 - pmWt h.1) ≤ R.slots) (hh : pmC j ins st h.1 = some (j', av, rest))
    (hM : j' < nmT → Met l (ynT j') (pmWs j') (pmRm d h h1) (va_Pc (av.map (pmCv a0 b)) (pmPre D cI cZ cP a0 b S h)) (pmPost D cI cZ cP a0 b S r h1) (h1.1.length - h.1.length) (pmWt h1.1 - pmWt h.1) (fun q => a0 ≤ q))
    (kk : ∀ (t : State) (locs1 : List Loc), pmPre D cI cZ cP a0 b S h1 t → va_S (fun q => a0 ≤ q) s.heap t.heap locs1 → W p l e R s m args below meth c t.heap locs1 (cells + (h1.1.length - h.1.length)) (slots + (pmWt h1.1 - pmWt h.1)) Q (F0 m (pc + len) LS ((r.map (pmCv a0 b)).toList ++ rest.map (pmCv a0 b)))) : W p l e R s m args below meth c H locs cells slots Q (F0 m pc LS (st.map (pmCv a0 b))) := by
  have hC0 := hC
  have hI0 := hI
  obtain ⟨hx, hb, hml, hown, hts, hns, hAO, hK, hX, hba, hA0, hini⟩ := hC
  obtain ⟨hP, hS, hc1, hc2⟩ := hI
  have hpre : ∀ U : State, U.heap = H → s.WarmedH U.vm → pmPre D cI cZ cP a0 b S h U := fun U hU hW => pm_pre hC0 hI0 hz hU hW
  have hgo : ∀ {i kd : Nat}, calT j i = some (j', kd) → j' < nmT ∧ GoodIn tbT (pmWs j') ∧ (Cond.initialized (ynT j').cls).before args s = true ∧ ((Cond.methodLink (ownT j) i (ynT j') ∈ tbT) ∨ ∃ host, Cond.methodLinkNest (ownT j) i (ynT j') host ∈ nsT) ∧ (pmRm d h h1).frames + 1 ≤ R.frames ∧ 8 + (mxlT j' + 11) + (pmRm d h h1).locals ≤ R.locals := fun ho => by
    obtain ⟨g1, g2, g3, g4, g5⟩ := calT_ok ho
    exact ⟨g1, pm_good g2, hts _ g3, g4, hfr, by show 8 + (mxlT j' + 11) + 60 * d ≤ R.locals; omega⟩
  unfold pmC at hh
  split at hh
  · obtain ⟨ho, rfl, hnar, hcat, hrc⟩ := pmCal_inv hh
    obtain ⟨a, tl, rfl, hk⟩ := pmRcv_inv (by decide) (hrc.resolve_left (by decide))
    obtain rfl : 3 = len := hn.resolve_left (Nat.succ_ne_zero _)
    obtain ⟨g1, g2, g3, g4, g5⟩ := hgo ho
    obtain ⟨v1, v2, v3, v4, v5⟩ := calT_virt ho
    have hst : ((Value.ref a :: tl).reverse ++ rest).map (pmCv a0 b) = (tl.map (pmCv a0 b)).reverse ++ .ref (a0 + a) :: rest.map (pmCv a0 b) := by
      simp [pmCv]
    have hrv := va_recv hK hP (clT_at v5) (pmPic_at hk)
    have hlen : (tl.map (pmCv a0 b)).length = narT j' - 1 := by
      rw [List.length_map, ← hnar]
      rfl
    have hMM := hM g1
    rw [hst]
    rcases g4 with g4 | ⟨host, g4⟩
    · exact pm_call (va_runV ⟨hx, hb, hml, hown, hts⟩ hMM ⟨callB_of (narT j' - 1) hts g2 rfl rfl rfl g3 (hts _ g4) v4 g5, hts _ v1, hts _ v2⟩ ⟨pm_blind, hrv, fun U hU hW => ⟨rfl, hpre U hU hW⟩⟩ rfl hlen hl rfl (lv_room (by rw [pm_cat]; exact hcat)) hd ⟨hr1, hr2⟩) hS kk
    · exact pm_call (va_runVN ⟨hx, hb, hml, hown, hts⟩ hMM ⟨va_cnB (narT j' - 1) hts g2 rfl rfl rfl (hns _ g4) g3 v4 g5, hts _ v1, hts _ v2⟩ ⟨pm_blind, hrv, fun U hU hW => ⟨rfl, hpre U hU hW⟩⟩ rfl hlen hl rfl (lv_room (by rw [pm_cat]; exact hcat)) hd ⟨hr1, hr2⟩) hS kk
  · obtain ⟨ho, rfl, hnar, hcat, hrc⟩ := pmCal_inv hh
    obtain ⟨a, tl, rfl, hk⟩ := pmRcv_inv (by decide) (hrc.resolve_left (by decide))
    obtain rfl : 3 = len := hn.resolve_left (Nat.succ_ne_zero _)
    obtain ⟨g1, g2, g3, g4, g5⟩ := hgo ho
    obtain ⟨v1, v2, v3, v4⟩ := calT_init ho
    have hst : ((Value.ref a :: tl).reverse ++ rest).map (pmCv a0 b) = (tl.map (pmCv a0 b)).reverse ++ .ref (a0 + a) :: rest.map (pmCv a0 b) := by
      simp [pmCv]
    have hlen : (tl.map (pmCv a0 b)).length = narT j' - 1 := by
      rw [List.length_map, ← hnar]
      rfl
    have hMM := hM g1
    have hw : pmWs j' = Cond.code (ynT j') (bytT j') (mxlT j') none :: tbT := by
      unfold pmWs
      rw [v3]
    rw [hst]
    rcases g4 with g4 | ⟨host, g4⟩
    · exact pm_call (va_runI ⟨hx, hb, hml, hown, hts⟩ hMM ⟨callB_of (narT j' - 1) hts g2 hw rfl rfl g3 (hts _ g4) v4 g5, v2, hts _ v1⟩ ⟨pm_blind, fun U hU hW => ⟨rfl, hpre U hU hW⟩⟩ rfl hlen hl rfl (lv_room (by rw [pm_cat]; exact hcat)) hd ⟨hr1, hr2⟩) hS kk
    · exact pm_call (va_runIN ⟨hx, hb, hml, hown, hts⟩ hMM ⟨va_cnB (narT j' - 1) hts g2 hw rfl rfl (hns _ g4) g3 v4 g5, v2, hts _ v1⟩ ⟨pm_blind, fun U hU hW => ⟨rfl, hpre U hU hW⟩⟩ rfl hlen hl rfl (lv_room (by rw [pm_cat]; exact hcat)) hd ⟨hr1, hr2⟩) hS kk
  · obtain ⟨ho, rfl, hnar, hcat, hrc⟩ := pmCal_inv hh
    obtain rfl : 3 = len := hn.resolve_left (Nat.succ_ne_zero _)
    obtain ⟨g1, g2, g3, g4, g5⟩ := hgo ho
    obtain ⟨v1, v4⟩ := calT_stat ho
    have hst : (av.reverse ++ rest).map (pmCv a0 b) = (av.map (pmCv a0 b)).reverse ++ rest.map (pmCv a0 b) := by
      simp
    have hlen : (av.map (pmCv a0 b)).length = narT j' := by
      rw [List.length_map, ← hnar]
    have hMM := hM g1
    rw [hst]
    rcases g4 with g4 | ⟨host, g4⟩
    · exact pm_call (va_runS ⟨hx, hb, hml, hown, hts⟩ hMM ⟨callB_of (narT j') hts g2 rfl rfl rfl g3 (hts _ g4) v4 g5, hts _ v1⟩ ⟨pm_blind, fun U hU hW => ⟨rfl, hpre U hU hW⟩⟩ rfl hlen hl rfl (lv_room (by rw [pm_cat]; exact hcat)) hd ⟨hr1, hr2⟩) hS kk
    · exact pm_call (va_runSN ⟨hx, hb, hml, hown, hts⟩ hMM ⟨va_cnB (narT j') hts g2 rfl rfl rfl (hns _ g4) g3 v4 g5, hts _ v1, trivial⟩ ⟨pm_blind, fun U hU hW => ⟨rfl, hpre U hU hW⟩⟩ rfl hlen hl rfl (lv_room (by rw [pm_cat]; exact hcat)) hd ⟨hr1, hr2⟩) hS kk
  · cases hh
set_option maxHeartbeats 4000000 in
theorem pm_body {d : Nat} (IH : pmMet l D cI cZ cP a0 b S d) (hC : pmCtx p s m args meth c D cI cZ cP a0 b S j) (hfr : d + 1 ≤ R.frames) (hlo : 60 * d + 60 ≤ R.locals) (hr1 : a0 + h'.1.length ≤ s.heap.size + R.cells) (hr2 : pmWt h'.1 ≤ w0 + R.slots)
    (kr : ∀ (pc1 : Nat) (LS1 : Array Slot) (st1 : List Value) (ins1 : Instr) (len1 : Nat) (H1 : Heap) (locs1 : List Loc) (cells1 slots1 : Nat), decode (bytT j) pc1 = .ok (ins1, len1) → (pmSz ins1 = 0 ∨ pmSz ins1 = len1) → pmT j ins1 st1 = some r → pmInv D cI cZ cP a0 b w0 s h' H1 locs1 cells1 slots1 → W p l e R s m args below meth c H1 locs1 cells1 slots1 Q (F0 m pc1 LS1 (st1.map (pmCv a0 b)))) :
    ∀ (n pc : Nat) (ls : pmLs) (st : List Value) (h : pmH) (LS : Array Slot) (H : Heap) (locs : List Loc) (cells slots : Nat), pmR S (pmX S d) j n pc ls st h r h' → pmLsR a0 b LS ls → ls.length = mxlT j → pmInv D cI cZ cP a0 b w0 s h H locs cells slots → W p l e R s m args below meth c H locs cells slots Q (F0 m pc LS (st.map (pmCv a0 b))) := by
  intro n
  induction n with
  | zero => intro pc ls st h LS H locs cells slots hh; exact hh.elim
  | succ n ih =>
    intro pc ls st h LS H locs cells slots hh hls hll hI
    have hC0 := hC
    obtain ⟨hx, hb, hml, hown, hts, hns, hAO, hK, hX, hba, hA0, hini⟩ := hC
    unfold pmR at hh
    split at hh
    · exact hh.elim
    · rename_i ins len hcod
      obtain ⟨hd, hn⟩ := codT_ok hcod
      split at hh
      · rename_i a ha
        obtain ⟨ls2, st2⟩ := a
        exact pm1_W hx hb hown hts hd hn ha hls (fun LS' hl' => ih _ _ _ _ _ _ _ _ _ hh hl' ((pm1_len ha).trans hll) hI)
      · split at hh
        · rename_i a ha
          obtain ⟨pc2, st2⟩ := a
          exact pm2_W hx hb hd hn ha (ih _ _ _ _ _ _ _ _ _ hh hls hll hI)
        · split at hh
          · rename_i a ha
            obtain ⟨st2, h2⟩ := a
            have hm := pmR_mono (fun j av h r h' => pmX_mono d j av h r h') _ _ _ _ _ _ _ hh
            exact pm3_W hC0 hd hn hI (hls.1.trans hll) (by omega) (by omega) (Nat.le_trans (Nat.add_le_add_left hm.1 _) hr1) (Nat.le_trans hm.2 hr2) ha (fun H1 locs1 cells1 slots1 hI1 => ih _ _ _ _ _ _ _ _ _ hh hls hll hI1)
          · split at hh
            · rename_i a ha
              obtain ⟨j2, av, rest⟩ := a
              obtain ⟨v, h1, hcl, hh⟩ := hh
              have hm := pmR_mono (fun j av h r h' => pmX_mono d j av h r h') _ _ _ _ _ _ _ hh
              have hm2 := pmX_mono _ _ _ _ _ _ hcl
              obtain ⟨hP, hS, hc1, hc2⟩ := hI
              refine pm_size fun hz => ?_
              have hm3 := hm.1
              have hm4 := hm.2
              have hm5 := hm2.1
              have hm6 := hm2.2
              refine pm_invoke hC0 hd hn ⟨hP, hS, hc1, hc2⟩ (hls.1.trans hll) hfr hlo hz (by omega) (by omega) ha (fun hj => IH _ _ _ _ _ hj hcl) (fun t locs1 hp hs1 => ?_)
              have e : (v.map (pmCv a0 b)).toList ++ rest.map (pmCv a0 b) = (v.toList ++ rest).map (pmCv a0 b) := by cases v <;> rfl
              rw [e]
              exact ih _ _ _ _ _ _ _ _ _ hh hls hll ⟨hp.1, hs1, by omega, by omega⟩
            · obtain ⟨ht, rfl⟩ := hh
              exact kr _ _ _ _ _ _ _ _ _ hd hn ht hI
end PMD
theorem pmEnt_len {av : List Value} {n : Nat} (h : (pmSl av).length ≤ n) : (pmEnt av n).length = n := by
  unfold pmEnt
  rw [List.length_append, List.length_replicate]
  omega
def pmSlot (a0 b : Nat) (o : Option Value) : Slot := match o with
  | some v => .val (pmCv a0 b v)
  | none => .second
theorem pmSl_lg (a0 b : Nat) : ∀ av : List Value, lg_sl (av.map (pmCv a0 b)) = (pmSl av).map (pmSlot a0 b)
  | [] => rfl
  | v :: vs => by
    have ih := pmSl_lg a0 b vs
    unfold lg_sl at ih ⊢
    rw [List.map_cons, List.flatMap_cons, ih, pmCv_cat]
    show _ = List.map (pmSlot a0 b) (if v.category = 2 then some v :: none :: pmSl vs else some v :: pmSl vs)
    by_cases hv : v.category = 2
    · rw [if_pos hv, if_pos hv]
      rfl
    · rw [if_neg hv, if_neg hv]
      rfl
theorem pmEnt_R {a0 b n : Nat} {av : List Value} (h : (pmSl av).length ≤ n) : pmLsR a0 b ((lg_sl (av.map (pmCv a0 b)) ++ List.replicate (n - (lg_sl (av.map (pmCv a0 b))).length) Slot.unset).toArray) (pmEnt av n) := by
  have hlen : (lg_sl (av.map (pmCv a0 b))).length = (pmSl av).length := by rw [pmSl_lg, List.length_map]
  have hE := lv_entry (av.map (pmCv a0 b)) (n := n) (by rw [hlen]; exact h)
  refine ⟨by rw [pmEnt_len h]; exact hE.1, hE.2.1, fun i v hi => ?_⟩
  rw [List.getElem?_toArray]
  unfold pmEnt at hi
  by_cases hlt : i < (pmSl av).length
  · rw [List.getElem?_append_left hlt] at hi
    rw [List.getElem?_append_left (by rw [hlen]; exact hlt), pmSl_lg, List.getElem?_map, hi]
    rfl
  · rw [List.getElem?_append_right (by omega), List.getElem?_replicate] at hi
    split at hi
    · cases hi
    · cases hi
theorem pm_met (l : Launch) (D : va_G) (cI cZ cP : ClassId) (a0 b : Nat) (S : pmS) : ∀ d, pmMet l D cI cZ cP a0 b S d := by
  intro d
  induction d with
  | zero => intro j av h r h' _ hh; exact hh.elim
  | succ d IH =>
    intro j av h r h' hj hh
    obtain ⟨hsl, n, hR⟩ := hh
    have hm := pmR_mono (fun j av h r h' => pmX_mono d j av h r h') _ _ _ _ _ _ _ hR
    refine Met.ofW (cc := bytT j) (maxL := mxlT j) (ret := rtyT j) (ynT_plain hj) rfl ?_
    intro p e s m args below meth c s₁ B hml hv
    obtain ⟨rfl, hP, hz, hK, hX, hba, hAO, hns⟩ := hv
    have hx := B.exec
    have hb := B.bytes
    have hr := B.returns
    have hts0 := atoms_spec (ws := pmWs j) B.pre
    have hts : ∀ w ∈ tbT, w.before _ s = true := fun w hw => hts0 w (List.mem_cons_of_mem _ hw)
    have hown : s.vm.findClass (ownT j) = some m.cls := findClass_of_methodNamed B.named
    have hlocks := B.notSynchronized
    have hnm : meth.name = (ynT j).name := (name_of_methodNamed B.named B.method).1
    have hC : pmCtx p s m _ meth c D cI cZ cP a0 b S j := ⟨hx, hb, hml, hown, hts, hns, hAO, hK, hX, hba, by omega, fun hi => hnm.trans (iniT_ok hi)⟩
    rw [lg_entry_eq]
    refine pm_body (w0 := pmWt h.1) IH hC (by show d + 1 ≤ d + 1; omega) (by show 60 * d + 60 ≤ 60 * (d + 1); omega) (by show a0 + h'.1.length ≤ s.heap.size + (h'.1.length - h.1.length); have := hm.1; omega) (by show pmWt h'.1 ≤ pmWt h.1 + (pmWt h'.1 - pmWt h.1); have := hm.2; omega) ?_ n 0 (pmEnt av (mxlT j)) [] h _ s.heap [] 0 0 hR (pmEnt_R hsl) (pmEnt_len hsl) ⟨hP, va_S.rf, by omega, by omega⟩
    intro pc1 LS1 st1 ins1 len1 H1 locs1 cells1 slots1 hd hn ht hI
    refine pm_size fun hz1 => ?_
    have hI0 := hI
    obtain ⟨hP1, hS1, hc1, hc2⟩ := hI
    have hm1 := hm.1
    have hm2 := hm.2
    obtain rfl : cells1 = h'.1.length - h.1.length := by omega
    obtain rfl : slots1 = pmWt h'.1 - pmWt h.1 := by omega
    have hq : ∀ t : State, t.heap = H1 → s.WarmedH t.vm → pmPost D cI cZ cP a0 b S r h' (av.map (pmCv a0 b)).toArray s (.returned (r.map (pmCv a0 b))) t := fun t ht hW => ⟨⟨rfl, pm_pre hC hI0 hz1 ht hW⟩, hS1.F ht⟩
    unfold pmT at ht
    split at ht
    · obtain rfl : 1 = len1 := hn.resolve_left (Nat.succ_ne_zero _)
      split at ht
      · split at ht
        · rename_i hrt
          cases ht
          exact W.iret hx hb (hr.trans (retT_1 hrt)) hq hS1.2.2 hd hlocks
        · split at ht
          · rename_i hrt
            simp only [Bool.and_eq_true, Bool.or_eq_true, beq_iff_eq] at hrt
            cases ht
            exact W.zret (ty := .boolean) hx hb (hr.trans (retT_2 hrt.1)) (by rcases hrt.2 with rfl | rfl <;> rfl) hq hS1.2.2 hd hlocks
          · cases ht
      · cases ht
    · obtain rfl : 1 = len1 := hn.resolve_left (Nat.succ_ne_zero _)
      split at ht
      · split at ht
        · rename_i hrt
          cases ht
          obtain ⟨rt, e1, e2⟩ := retT_3 hrt
          exact W.aret hx hb (hr.trans e1) e2 (Or.inr ⟨_, rfl⟩) hq hS1.2.2 hd hlocks
        · cases ht
      · cases ht
    · obtain rfl : 1 = len1 := hn.resolve_left (Nat.succ_ne_zero _)
      split at ht
      · split at ht
        · rename_i hrt
          cases ht
          exact W.vret hx hb (hr.trans (retT_0 hrt)) hq hS1.2.2 hd hlocks
        · cases ht
      · cases ht
    · cases ht
