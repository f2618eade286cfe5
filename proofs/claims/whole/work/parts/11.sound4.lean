def pmTys (cI cZ cP : ClassId) : List (ClassId × FieldType) := [(cI, .int), (cZ, .boolean), (cP, .object rfnT)]
def pmInv (D : va_G) (cI cZ cP : ClassId) (a0 b w0 : Nat) (s : State) (h : pmH) (H : Heap) (locs : List Loc) (cells slots : Nat) : Prop :=
  va_P D clT (pmPic cI cZ cP a0 b h) H ∧ va_S (fun q => a0 ≤ q) s.heap H locs ∧ s.heap.size + cells = a0 + h.1.length ∧ slots + w0 = pmWt h.1
def pmCtx (p : Program) (s : State) (m : MethodId) (args : Array Value) (meth : Method) (c : Code) (D : va_G) (cI cZ cP : ClassId) (a0 b : Nat) (S : pmS) (j : Nat) : Prop :=
  p.tables.exec = Jvm.exec ∧ c.code = bytT j ∧ c.maxLocals = mxlT j ∧ s.vm.findClass (ownT j) = some m.cls ∧ (∀ w ∈ tbT, w.before args s = true) ∧ (∀ w ∈ nsT, va_Nw w s) ∧ va_AO rfnT s ∧ va_K D clT (pmTys cI cZ cP) s ∧ va_X b (S.1 - 1) S.2 s s.heap ∧ b < a0 ∧ a0 ≤ s.heap.size ∧ (iniT j = true → meth.name = "<init>")
theorem pm_fits {ci k a0 b : Nat} {v : Value} {ty : FieldType} (hf : pmFit (ftyT ci k) v = true) (ht : pmTyOk (ftyT ci k) ty = true) : narrow ty (pmCv a0 b v) = pmCv a0 b v ∧ fits ty (pmCv a0 b v) = true := by
  generalize ftyT ci k = t at hf ht
  cases v with
  | int x =>
    unfold pmFit at hf
    simp only [Bool.or_eq_true, Bool.and_eq_true, beq_iff_eq] at hf
    rcases hf with rfl | ⟨rfl, h⟩
    · cases ty <;> first | exact ⟨rfl, rfl⟩ | (exfalso; revert ht; decide) | (exfalso; cases ht)
    · cases ty <;> first | (rcases h with rfl | rfl <;> exact ⟨rfl, rfl⟩) | (exfalso; revert ht; decide) | (exfalso; cases ht)
  | ref q =>
    unfold pmFit at hf
    simp only [beq_iff_eq] at hf
    subst hf
    cases ty <;> first | exact ⟨rfl, rfl⟩ | (exfalso; revert ht; decide) | (exfalso; cases ht)
  | _ => exfalso; revert hf; unfold pmFit; simp
theorem pm_dflt {ci k a0 b : Nat} {ty : FieldType} (ht : pmTyOk (ftyT ci k) ty = true) : defaultValue ty = pmCv a0 b (pmDf ci k) := by
  unfold pmDf
  generalize ftyT ci k = t at ht
  cases ty <;> (match t, ht with
    | 0, h => first | rfl | cases h
    | 1, h => first | rfl | cases h
    | 2, h => first | rfl | cases h
    | _ + 3, h => cases h)
section PMC
variable {p : Program} {l : Launch} {e : Env} {R : Room} {s : State} {m : MethodId} {args : Array Value} {below : List Frame} {meth : Method} {c : Code} {H : Heap} {locs : List Loc} {cells slots : Nat} {Q : State → Prop}
variable {D : va_G} {cI cZ cP : ClassId} {pc len a0 b w0 j : Nat} {S : pmS} {LS : Array Slot} {st st' : List Value} {ins : Instr} {h h' : pmH}
theorem pm_size {g : JFrame} (k : H.size ≤ s.heap.size + cells → W p l e R s m args below meth c H locs cells slots Q g) : W p l e R s m args below meth c H locs cells slots Q g :=
  fun T hT X => k (by rw [← hT]; exact X.heapSize) T hT X
set_option maxHeartbeats 4000000 in
theorem pm3_W (hC : pmCtx p s m args meth c D cI cZ cP a0 b S j) (hd : decode (bytT j) pc = .ok (ins, len)) (hn : pmSz ins = 0 ∨ pmSz ins = len) (hI : pmInv D cI cZ cP a0 b w0 s h H locs cells slots) (hl : LS.size = mxlT j) (hfr : 1 ≤ R.frames) (hlo : 20 ≤ R.locals)
    (hr1 : a0 + h'.1.length ≤ s.heap.size + R.cells) (hr2 : pmWt h'.1 ≤ w0 + R.slots) (hh : pm3 S j ins st h = some (st', h'))
    (k : ∀ (H1 : Heap) (locs1 : List Loc) (cells1 slots1 : Nat), pmInv D cI cZ cP a0 b w0 s h' H1 locs1 cells1 slots1 → W p l e R s m args below meth c H1 locs1 cells1 slots1 Q (F0 m (pc + len) LS (st'.map (pmCv a0 b)))) : W p l e R s m args below meth c H locs cells slots Q (F0 m pc LS (st.map (pmCv a0 b))) := by
  obtain ⟨hx, hb, hml, hown, hts, hns, hAO, hK, hX, hba, hA0, hini⟩ := hC
  obtain ⟨hP, hS, hc1, hc2⟩ := hI
  have hD : va_D (fun q => a0 ≤ q) (pmPic cI cZ cP a0 b h) := pmPic_D
  have hA : ∀ q, s.heap.size ≤ q → a0 ≤ q := fun q z => Nat.le_trans hA0 z
  unfold pm3 at hh
  split at hh
  · obtain ⟨rfl, ci, f, a, r, ho, rfl, hk, rfl⟩ := pmGet_inv hh
    obtain rfl : 3 = len := hn.resolve_left (Nat.succ_ne_zero _)
    obtain ⟨hci, hf, hw⟩ := fldT_ok ho
    have hv : ((List.range (nfT ci)).map (fun k => pmCv a0 b (h'.2 a k)))[f]? = some (pmCv a0 b (h'.2 a f)) := by
      rw [List.getElem?_map, pm_rngAt hf]
      rfl
    rcases hw with hw | ⟨host, hw⟩
    · exact va_get hx hb hts (clT_ws hci) hown hK hP a (pmPic_at hk) (clT_at hci) f hf (hts _ hw) (fun x z => z) hv hd (k H locs cells slots ⟨hP, hS, hc1, hc2⟩)
    · exact va_getN hx hb hts (clT_ws hci) hown hK hP a (pmPic_at hk) (clT_at hci) f hf (va_Nw.use rfl (hns _ hw)) (fun x z => z) hv hd (k H locs cells slots ⟨hP, hS, hc1, hc2⟩)
  · obtain ⟨ci, f, v, a, ho, rfl, hk, hfit, hfi, rfl⟩ := pmSet_inv hh
    obtain rfl : 3 = len := hn.resolve_left (Nat.succ_ne_zero _)
    obtain ⟨hci, hf, hw⟩ := fldT_ok ho
    obtain ⟨hq1, hq2⟩ := pm_fits (a0 := a0) (b := b) hfit (clT_tg hci hf)
    have hln : f < ((List.range (nfT ci)).map (fun k => pmCv a0 b (h.2 a k))).length := by simpa using hf
    have he := pmPic_set (cI := cI) (cZ := cZ) (cP := cP) (a0 := a0) (b := b) (V' := pmPut h.2 a f v) hk rfl (fun i hi => pmPut_ne hi)
    have hu : pmCell cI cZ cP a0 b (ci + 4, nfT ci) (pmPut h.2 a f v a) = .inr (ci, ((List.range (nfT ci)).map (fun k => pmCv a0 b (h.2 a k))).set f (pmCv a0 b v)) := by
      rw [pm_updF]
      rfl
    rw [hu] at he
    by_cases hfin : finT ci f = false
    · rcases hw with hw | ⟨host, hw⟩
      · exact va_put hx hb hts (clT_ws hci) (tyT ci) (fun k hk => clT_ty hci hk) (clT_nm hci) hown hK hP hD hS a (pmPic_at hk) (clT_at hci) f hf (hts _ hw) (fun x z => z) ((clT_fin hci hf).trans hfin) (clT_ty hci hf) hq1 hq2 hln hd
          (fun H1 locs1 hP1 _ hS1 => k H1 locs1 cells slots ⟨by rw [← he]; exact hP1, hS1, hc1, hc2⟩)
      · exact va_putN hx hb hts (clT_ws hci) (tyT ci) (fun k hk => clT_ty hci hk) (clT_nm hci) hown hK hP hD hS a (pmPic_at hk) (clT_at hci) f hf (va_Nw.use rfl (hns _ hw)) (fun x z => z) ((clT_fin hci hf).trans hfin) (clT_ty hci hf) hq1 hq2 hln hd
          (fun H1 locs1 hP1 _ hS1 => k H1 locs1 cells slots ⟨by rw [← he]; exact hP1, hS1, hc1, hc2⟩)
    · obtain ⟨hi1, rfl⟩ := hfi.resolve_left hfin
      have hw2 := (finT_ok ho hi1 (by simpa using hfin))
      exact va_putF hx hb hts (clT_ws hci) (tyT _) (fun k hk => clT_ty hci hk) (clT_nm hci) hown hK hP hD hS a (pmPic_at hk) (clT_at hci) f hf (hts _ hw2.1) (fun x z => z) ((clT_fin hci hf).trans (by simpa using hfin)) (hini hi1) hw2.2 (clT_ty hci hf) hq1 hq2 hln hd
        (fun H1 locs1 hP1 _ hS1 => k H1 locs1 cells slots ⟨by rw [← he]; exact hP1, hS1, hc1, hc2⟩)
  · obtain rfl : 1 = len := hn.resolve_left (Nat.succ_ne_zero _)
    obtain ⟨rfl, ⟨i, a, r, n, rfl, hk, hi, rfl⟩ | ⟨i, z, r, rfl, -, hi, rfl⟩⟩ := pmArL_inv hh
    · exact va_iald hx hb hK hP a 0 (pmPic_at hk) rfl (pmIn_in hi) hd (k H locs cells slots ⟨hP, hS, hc1, hc2⟩)
    · exact va_sld hx hb hX (Nat.lt_of_lt_of_le hba hA0) (show ¬ a0 ≤ b by omega) hS (pmIn_in hi) hd (k H locs cells slots ⟨hP, hS, hc1, hc2⟩)
  · obtain rfl : 1 = len := hn.resolve_left (Nat.succ_ne_zero _)
    obtain ⟨rfl, ⟨i, a, r, n, rfl, hk, hi, rfl⟩ | ⟨i, z, r, rfl, ht, hi, rfl⟩⟩ := pmArL_inv hh
    · exact va_zald hx hb hK hP a 1 (pmPic_at hk) rfl (pmIn_in hi) hd (k H locs cells slots ⟨hP, hS, hc1, hc2⟩)
    · exact absurd ht (by decide)
  · obtain rfl : 1 = len := hn.resolve_left (Nat.succ_ne_zero _)
    obtain ⟨x, i, a, n, rfl, hk, hi, -, rfl⟩ := pmArS_inv hh
    refine va_iast hx hb hK hP hD hS a 0 (pmPic_at hk) rfl (pmIn_in hi) hd (fun H1 locs1 hP1 _ hS1 => k H1 locs1 cells slots ⟨?_, hS1, hc1, hc2⟩)
    rw [pm_upd] at hP1
    rw [← pmPic_set (V' := pmPut h.2 a i.toNatClampNeg (.int x)) hk rfl (fun i hi => pmPut_ne hi)]
    exact hP1
  · obtain rfl : 1 = len := hn.resolve_left (Nat.succ_ne_zero _)
    obtain ⟨x, i, a, n, rfl, hk, hi, hz, rfl⟩ := pmArS_inv hh
    have hz := hz.resolve_left (by decide)
    refine va_zast hx hb hK hP hD hS a 1 (pmPic_at hk) rfl (x := x) (pmIn_in hi) hd (fun H1 locs1 hP1 _ hS1 => k H1 locs1 cells slots ⟨?_, hS1, hc1, hc2⟩)
    rw [show vp_nar .boolean x = x by rcases hz with rfl | rfl <;> rfl, pm_upd] at hP1
    rw [← pmPic_set (V' := pmPut h.2 a i.toNatClampNeg (.int x)) hk rfl (fun i hi => pmPut_ne hi)]
    exact hP1
  · obtain rfl : 1 = len := hn.resolve_left (Nat.succ_ne_zero _)
    obtain ⟨rfl, i, a, r, n, q, rfl, hk, hi, hv, rfl⟩ := pmRfL_inv hh
    refine va_aldq hx hb hK hP a 2 (pmPic_at hk) rfl (pmIn_in hi) hd ?_
    rw [hv]
    exact k H locs cells slots ⟨hP, hS, hc1, hc2⟩
  · obtain rfl : 1 = len := hn.resolve_left (Nat.succ_ne_zero _)
    obtain ⟨q, i, a, n, rfl, hk, hq, hi, rfl⟩ := pmRfS_inv hh
    refine va_astq hx hb hK hP hD hS a 2 q rfcT (r := (cnT rfcT, cT rfcT, nfT rfcT)) (pmPic_at hk) rfl (pmPic_at hq) (clT_at rfcT_lt) (pmIn_in hi) hd (fun H1 locs1 hP1 _ hS1 => k H1 locs1 cells slots ⟨?_, hS1, hc1, hc2⟩)
    rw [pm_updR] at hP1
    rw [← pmPic_set (V' := pmPut h.2 a i.toNatClampNeg (.ref q)) hk rfl (fun i hi => pmPut_ne hi)]
    exact hP1
  · obtain rfl : 1 = len := hn.resolve_left (Nat.succ_ne_zero _)
    obtain ⟨rfl, ⟨a, r, t, n, rfl, hk, ht, rfl⟩ | ⟨z, r, rfl, rfl⟩⟩ := pmLen_inv hh
    · rcases ht with rfl | rfl | rfl
      · exact va_alen hx hb hK hP a 0 (pmPic_at hk) rfl rfl hd (k H locs cells slots ⟨hP, hS, hc1, hc2⟩)
      · exact va_alen hx hb hK hP a 1 (pmPic_at hk) rfl rfl hd (k H locs cells slots ⟨hP, hS, hc1, hc2⟩)
      · exact va_alen hx hb hK hP a 2 (pmPic_at hk) rfl rfl hd (k H locs cells slots ⟨hP, hS, hc1, hc2⟩)
    · exact va_slen hx hb hX (Nat.lt_of_lt_of_le hba hA0) (show ¬ a0 ≤ b by omega) hS hd (k H locs cells slots ⟨hP, hS, hc1, hc2⟩)
  · obtain rfl : 3 = len := hn.resolve_left (Nat.succ_ne_zero _)
    obtain ⟨ci, ho, rfl, rfl⟩ := pmNew_inv hh
    obtain ⟨hci, hw1, hw2, hw3⟩ := newT_ok ho
    rw [List.length_append] at hr1
    rw [pmWt_app] at hr2
    have hr1 : a0 + (h.1.length + 1) ≤ s.heap.size + R.cells := hr1
    refine va_new (fs := (List.range (nfT ci)).map (fun k => pmCv a0 b (pmDf ci k))) hx hb hts (clT_ws hci) (tyT ci) (fun k hk => clT_ty hci hk) hown (hts _ hw1) (hts _ hw2) (hts _ hw3) hK hP hD hS hA (clT_at hci) (fun i hi => ?_) (by omega) (by omega) hd (fun q H1 hP1 hD1 hS1 => pm_size fun hz => ?_)
    · unfold vp_V
      rw [List.getD_eq_getElem?_getD, List.getElem?_map, pm_rngAt hi]
      exact pm_dflt (clT_tg hci hi)
    · have hq := pm_fresh hD1 hP1 (by omega)
      subst hq
      refine k H1 locs (cells + 1) (slots + nfT ci) ⟨?_, hS1, ?_, ?_⟩
      · rw [pmPic_app]
        exact hP1
      · rw [List.length_append]
        show s.heap.size + (cells + 1) = a0 + (h.1.length + 1)
        omega
      · rw [pmWt_app]
        omega
  · rename_i t
    obtain rfl : 2 = len := hn.resolve_left (by cases t <;> decide)
    split at hh
    · obtain ⟨n, r, rfl, hn0, hn1, rfl, rfl⟩ := pmNwA_inv hh
      rw [List.length_append] at hr1
      rw [pmWt_app] at hr2
      have hr1 : a0 + (h.1.length + 1) ≤ s.heap.size + R.cells := hr1
      refine va_newa (a0 := (n.toNatClampNeg, .inl (fun _ => 0))) hx hb (hts _ arrI_ok) (ty := .int) rfl hK hP hD hS hA (fun _ => rfl) hn0 rfl (Nat.le_trans (Nat.mul_le_mul_right _ hn1) (by decide)) (by omega) (by omega) hd (fun q cA H1 hK1 hP1 hD1 hS1 => pm_size fun hz => ?_)
      have hcA : cA = cI := by
        have e1 := (hK1.2 3 _ rfl).2
        have e2 := (hK1.2 0 _ rfl).2
        exact Option.some.inj (e1.symm.trans e2)
      subst hcA
      have hq := pm_fresh hD1 hP1 (by omega)
      subst hq
      refine k H1 locs (cells + 1) (slots + n.toNatClampNeg) ⟨?_, hS1, ?_, ?_⟩
      · rw [pmPic_app]
        exact hP1
      · rw [List.length_append]
        show s.heap.size + (cells + 1) = a0 + (h.1.length + 1)
        omega
      · rw [pmWt_app]
        omega
    · obtain ⟨n, r, rfl, hn0, hn1, rfl, rfl⟩ := pmNwA_inv hh
      rw [List.length_append] at hr1
      rw [pmWt_app] at hr2
      have hr1 : a0 + (h.1.length + 1) ≤ s.heap.size + R.cells := hr1
      refine va_newa (a0 := (n.toNatClampNeg, .inl (fun _ => 0))) hx hb (hts _ arrZ_ok) (ty := .boolean) rfl hK hP hD hS hA (fun _ => rfl) hn0 rfl (Nat.le_trans (Nat.mul_le_mul_right _ hn1) (by decide)) (by omega) (by omega) hd (fun q cA H1 hK1 hP1 hD1 hS1 => pm_size fun hz => ?_)
      have hcA : cA = cZ := by
        have e1 := (hK1.2 3 _ rfl).2
        have e2 := (hK1.2 1 _ rfl).2
        exact Option.some.inj (e1.symm.trans e2)
      subst hcA
      have hq := pm_fresh hD1 hP1 (by omega)
      subst hq
      refine k H1 locs (cells + 1) (slots + n.toNatClampNeg) ⟨?_, hS1, ?_, ?_⟩
      · rw [pmPic_app]
        exact hP1
      · rw [List.length_append]
        show s.heap.size + (cells + 1) = a0 + (h.1.length + 1)
        omega
      · rw [pmWt_app]
        omega
    · cases hh
  · split at hh
    · rename_i hw
      obtain rfl : 3 = len := hn.resolve_left (Nat.succ_ne_zero _)
      obtain ⟨n, r, rfl, hn0, hn1, rfl, rfl⟩ := pmNwA_inv hh
      rw [List.length_append] at hr1
      rw [pmWt_app] at hr2
      have hr1 : a0 + (h.1.length + 1) ≤ s.heap.size + R.cells := hr1
      refine va_newq hx hb hown (hts _ (anwT_ok hw)) hAO hK hP hD hS hA hn0 rfl (Nat.le_trans (Nat.mul_le_mul_right _ hn1) (by decide)) (by omega) (by omega) hd (fun q cA H1 hK1 hP1 hD1 hS1 => pm_size fun hz => ?_)
      have hcA : cA = cP := by
        obtain ⟨_, _, -, -, -, e1⟩ := (hK1.2 3 _ rfl).2
        obtain ⟨_, _, -, -, -, e2⟩ := (hK1.2 2 _ rfl).2
        exact Option.some.inj (e1.symm.trans e2)
      subst hcA
      have hq := pm_fresh hD1 hP1 (by omega)
      subst hq
      refine k H1 locs (cells + 1) (slots + n.toNatClampNeg) ⟨?_, hS1, ?_, ?_⟩
      · rw [pmPic_app]
        exact hP1
      · rw [List.length_append]
        show s.heap.size + (cells + 1) = a0 + (h.1.length + 1)
        omega
      · rw [pmWt_app]
        omega
    · cases hh
  · obtain rfl : 3 = len := hn.resolve_left (Nat.succ_ne_zero _)
    obtain ⟨rfl, ho, hw, a, rfl⟩ := pmObj_inv hh
    obtain ⟨h1, h2, h3⟩ := objT_ok ho
    have hcat : ((st'.map (pmCv a0 b)).map fun v => v.category).sum ≤ 8 := by
      rw [List.map_map, show ((fun v : Value => v.category) ∘ pmCv a0 b) = (fun v => v.category) from funext fun v => pmCv_cat a0 b v]
      exact hw
    refine W.objInit hx hb hown (hts _ h1) (hts _ h2) (hts _ h3) rfl (hl.trans hml.symm) rfl hd hfr (Nat.le_trans (Nat.add_le_add_right (lv_room hcat) 12) hlo) (W.eq (g2 := F0 m (pc + 3) LS (st'.map (pmCv a0 b))) rfl (k H locs cells slots ⟨hP, hS, hc1, hc2⟩))
  · cases hh
end PMC
