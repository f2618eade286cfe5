def pmCv (a0 b : Nat) (v : Value) : Value := match v with
  | .ref i => .ref (a0 + i)
  | .float _ => .ref b
  | w => w
theorem pmCv_cat (a0 b : Nat) (v : Value) : (pmCv a0 b v).category = v.category := by cases v <;> rfl
def pmLsR (a0 b : Nat) (LS : Array Slot) (ls : pmLs) : Prop := LS.size = ls.length ∧ lv_wf LS ∧ ∀ (i : Nat) (v : Value), ls[i]? = some (some v) → LS[i]? = some (.val (pmCv a0 b v))
def pmAl (a0 b : Nat) (ls : pmLs) : List (Nat × Value) := (List.range ls.length).filterMap (fun i => (ls.getD i none).map (fun v => (i, pmCv a0 b v)))
theorem pm_getD {ls : pmLs} {i : Nat} {v : Value} (h : ls.getD i none = some v) : ls[i]? = some (some v) := by
  rw [List.getD_eq_getElem?_getD] at h
  cases hg : ls[i]? with
  | none => rw [hg] at h; cases h
  | some o => rw [hg] at h; rw [show o = some v from h]
theorem pmLsR_has {a0 b : Nat} {LS : Array Slot} {ls : pmLs} (h : pmLsR a0 b LS ls) : lv_has LS ls.length (pmAl a0 b ls) := by
  refine ⟨h.1, h.2.1, fun q hq => ?_⟩
  obtain ⟨i, -, he⟩ := List.mem_filterMap.mp hq
  cases hg : ls.getD i none with
  | none => rw [hg] at he; cases he
  | some v =>
    rw [hg] at he
    cases he
    exact h.2.2 i v (pm_getD hg)
theorem pmAl_mem {a0 b : Nat} {ls : pmLs} {i : Nat} {v : Value} (h : ls[i]? = some (some v)) : (i, pmCv a0 b v) ∈ pmAl a0 b ls := by
  refine List.mem_filterMap.mpr ⟨i, List.mem_range.mpr (List.getElem?_eq_some_iff.mp h).1, ?_⟩
  rw [List.getD_eq_getElem?_getD, h]
  rfl
theorem pmLsR_set {a0 b : Nat} {ls : pmLs} {i : Nat} {v : Value} (hi : i < ls.length) (ho : pmOkS ls i = true) {LS' : Array Slot}
    (h : lv_has LS' ls.length ((i, pmCv a0 b v) :: (pmAl a0 b ls).filter (fun q => !(q.1 == i) && !(q.1 + 1 == i && q.2.category == 2)))) : pmLsR a0 b LS' (ls.set i (some v)) := by
  refine ⟨by rw [List.length_set]; exact h.1, h.2.1, fun k w hk => ?_⟩
  by_cases hki : k = i
  · subst hki
    rw [List.getElem?_set_self hi] at hk
    cases hk
    exact h.2.2 _ List.mem_cons_self
  · rw [List.getElem?_set_ne (Ne.symm hki)] at hk
    refine h.2.2 (k, pmCv a0 b w) (List.mem_cons_of_mem _ (List.mem_filter.mpr ⟨pmAl_mem hk, ?_⟩))
    have h1 : (k == i) = false := by simpa using hki
    rw [h1]
    by_cases h2 : k + 1 = i
    · subst h2
      unfold pmOkS at ho
      simp only [hk] at ho
      cases w <;> first | (simp at ho; done) | simp [pmCv, Value.category]
    · have h3 : (k + 1 == i) = false := by simpa using h2
      rw [h3]
      rfl
theorem pmPush_inv {ls ls' : pmLs} {st st' : List Value} {v : Value} (h : pmPush ls st v = some (ls', st')) : ls' = ls ∧ st' = v :: st := by
  cases h
  exact ⟨rfl, rfl⟩
theorem pmBi_inv {f : Int32 → Int32 → Int32} {ls ls' : pmLs} {st st' : List Value} (h : pmBi f ls st = some (ls', st')) : ls' = ls ∧ ∃ x y r, st = .int y :: .int x :: r ∧ st' = .int (f x y) :: r := by
  unfold pmBi at h
  split at h
  · cases h
    exact ⟨rfl, _, _, _, rfl, rfl⟩
  · cases h
theorem pmBd_inv {f : Int32 → Int32 → Int32} {ls ls' : pmLs} {st st' : List Value} (h : pmBd f ls st = some (ls', st')) : ls' = ls ∧ ∃ x y r, ¬ y = 0 ∧ st = .int y :: .int x :: r ∧ st' = .int (f x y) :: r := by
  unfold pmBd at h
  split at h
  · split at h
    · cases h
    · rename_i hy
      cases h
      exact ⟨rfl, _, _, _, hy, rfl, rfl⟩
  · cases h
theorem pmBl_inv {f : Int64 → Int64 → Int64} {ls ls' : pmLs} {st st' : List Value} (h : pmBl f ls st = some (ls', st')) : ls' = ls ∧ ∃ x y r, st = .long y :: .long x :: r ∧ st' = .long (f x y) :: r := by
  unfold pmBl at h
  split at h
  · cases h
    exact ⟨rfl, _, _, _, rfl, rfl⟩
  · cases h
theorem pmBs_inv {f : Int64 → Int32 → Int64} {ls ls' : pmLs} {st st' : List Value} (h : pmBs f ls st = some (ls', st')) : ls' = ls ∧ ∃ x y r, st = .int y :: .long x :: r ∧ st' = .long (f x y) :: r := by
  unfold pmBs at h
  split at h
  · cases h
    exact ⟨rfl, _, _, _, rfl, rfl⟩
  · cases h
theorem pmIL_inv {ls ls' : pmLs} {st st' : List Value} (h : pmIL ls st = some (ls', st')) : ls' = ls ∧ ∃ x r, st = .int x :: r ∧ st' = .long x.toInt64 :: r := by
  unfold pmIL at h
  split at h
  · cases h
    exact ⟨rfl, _, _, rfl, rfl⟩
  · cases h
theorem pmLI_inv {ls ls' : pmLs} {st st' : List Value} (h : pmLI ls st = some (ls', st')) : ls' = ls ∧ ∃ x r, st = .long x :: r ∧ st' = .int x.toInt32 :: r := by
  unfold pmLI at h
  split at h
  · cases h
    exact ⟨rfl, _, _, rfl, rfl⟩
  · cases h
theorem pmLdI_inv {i : Nat} {ls ls' : pmLs} {st st' : List Value} (h : pmLdI i ls st = some (ls', st')) : ls' = ls ∧ ∃ x, ls[i]? = some (some (.int x)) ∧ st' = .int x :: st := by
  unfold pmLdI at h
  split at h
  · rename_i x hx
    cases h
    exact ⟨rfl, x, hx, rfl⟩
  · cases h
theorem pmLdL_inv {i : Nat} {ls ls' : pmLs} {st st' : List Value} (h : pmLdL i ls st = some (ls', st')) : ls' = ls ∧ ∃ x, ls[i]? = some (some (.long x)) ∧ st' = .long x :: st := by
  unfold pmLdL at h
  split at h
  · rename_i x hx
    cases h
    exact ⟨rfl, x, hx, rfl⟩
  · cases h
theorem pmLdA_inv {a0 b i : Nat} {ls ls' : pmLs} {st st' : List Value} (h : pmLdA i ls st = some (ls', st')) : ls' = ls ∧ ∃ v q, ls[i]? = some (some v) ∧ st' = v :: st ∧ pmCv a0 b v = .ref q := by
  unfold pmLdA at h
  split at h
  · rename_i x hx
    cases h
    exact ⟨rfl, _, a0 + x, hx, rfl, rfl⟩
  · rename_i x hx
    cases h
    exact ⟨rfl, _, b, hx, rfl, rfl⟩
  · cases h
theorem pmStI_inv {i : Nat} {ls ls' : pmLs} {st st' : List Value} (h : pmStI i ls st = some (ls', st')) : i < ls.length ∧ pmOkS ls i = true ∧ ∃ x, st = .int x :: st' ∧ ls' = ls.set i (some (.int x)) := by
  unfold pmStI at h
  split at h
  · split at h
    · rename_i hc
      rw [Bool.and_eq_true] at hc
      cases h
      exact ⟨Nat.blt_eq.mp hc.1, hc.2, _, rfl, rfl⟩
    · cases h
  · cases h
theorem pmStA_inv {i : Nat} {ls ls' : pmLs} {st st' : List Value} (h : pmStA i ls st = some (ls', st')) : i < ls.length ∧ pmOkS ls i = true ∧ ∃ x, st = .ref x :: st' ∧ ls' = ls.set i (some (.ref x)) := by
  unfold pmStA at h
  split at h
  · split at h
    · rename_i hc
      rw [Bool.and_eq_true] at hc
      cases h
      exact ⟨Nat.blt_eq.mp hc.1, hc.2, _, rfl, rfl⟩
    · cases h
  · cases h
theorem pmInc_inv {i : Nat} {n : Int} {ls ls' : pmLs} {st st' : List Value} (h : pmInc i n ls st = some (ls', st')) : i < ls.length ∧ pmOkS ls i = true ∧ st' = st ∧ ∃ x, ls[i]? = some (some (.int x)) ∧ ls' = ls.set i (some (.int (x + Int32.ofInt n))) := by
  unfold pmInc at h
  split at h
  · rename_i x hx
    split at h
    · rename_i hc
      rw [Bool.and_eq_true] at hc
      cases h
      exact ⟨Nat.blt_eq.mp hc.1, hc.2, rfl, x, hx, rfl⟩
    · cases h
  · cases h
theorem pmDup_inv {ls ls' : pmLs} {st st' : List Value} (h : pmDup ls st = some (ls', st')) : ls' = ls ∧ ∃ v r, v.category = 1 ∧ st = v :: r ∧ st' = v :: v :: r := by
  unfold pmDup at h
  split at h
  · split at h
    · rename_i hc
      cases h
      exact ⟨rfl, _, _, hc, rfl, rfl⟩
    · cases h
  · cases h
theorem pmDup2_inv {ls ls' : pmLs} {st st' : List Value} (h : pmDup2 ls st = some (ls', st')) : ls' = ls ∧ ∃ v w r, v.category = 1 ∧ w.category = 1 ∧ st = v :: w :: r ∧ st' = v :: w :: v :: w :: r := by
  unfold pmDup2 at h
  split at h
  · split at h
    · rename_i hc
      split at h
      · rename_i hd
        cases h
        exact ⟨rfl, _, _, _, hc, hd, rfl, rfl⟩
      · cases h
    · cases h
  · cases h
theorem pmLdc_inv {o : Option Int32} {ls ls' : pmLs} {st st' : List Value} (h : pmLdc o ls st = some (ls', st')) : ls' = ls ∧ ∃ x, o = some x ∧ st' = .int x :: st := by
  unfold pmLdc at h
  split at h
  · cases h
    exact ⟨rfl, _, rfl, rfl⟩
  · cases h
theorem pmLdc2_inv {o : Option Int64} {ls ls' : pmLs} {st st' : List Value} (h : pmLdc2 o ls st = some (ls', st')) : ls' = ls ∧ ∃ x, o = some x ∧ st' = .long x :: st := by
  unfold pmLdc2 at h
  split at h
  · cases h
    exact ⟨rfl, _, rfl, rfl⟩
  · cases h
section PMA
variable {p : Program} {l : Launch} {e : Env} {R : Room} {s : State} {m : MethodId} {args : Array Value} {below : List Frame} {meth : Method} {c : Code} {H : Heap} {locs : List Loc} {cells slots : Nat} {Q : State → Prop}
variable {cc : ByteArray} {pc len a0 b j : Nat} {LS : Array Slot} {ls ls' : pmLs} {st st' : List Value} {ins : Instr}
set_option maxHeartbeats 4000000 in
theorem pm1_W (hx : p.tables.exec = Jvm.exec) (hb : c.code = cc) (hown : s.vm.findClass (ownT j) = some m.cls) (hts : ∀ w ∈ tbT, w.before args s = true) (hd : decode cc pc = .ok (ins, len)) (hn : pmSz ins = 0 ∨ pmSz ins = len) (h : pm1 j ins ls st = some (ls', st')) (hl : pmLsR a0 b LS ls)
    (k : ∀ LS' : Array Slot, pmLsR a0 b LS' ls' → W p l e R s m args below meth c H locs cells slots Q (F0 m (pc + len) LS' (st'.map (pmCv a0 b)))) : W p l e R s m args below meth c H locs cells slots Q (F0 m pc LS (st.map (pmCv a0 b))) := by
  have hH := pmLsR_has hl
  have hi1 : ∀ (i : Nat) (x : Int32), ls[i]? = some (some (.int x)) → ∃ q, (pmAl a0 b ls)[q]? = some (i, Value.int x) := fun i x h => List.getElem?_of_mem (pmAl_mem (a0 := a0) (b := b) h)
  unfold pm1 at h
  split at h
  · obtain ⟨rfl, rfl⟩ := pmPush_inv h
    obtain rfl : 1 = len := hn.resolve_left (Nat.succ_ne_zero _)
    exact lv_iconst hx hb hd rfl (k LS hl)
  · obtain ⟨rfl, rfl⟩ := pmPush_inv h
    obtain rfl : 2 = len := hn.resolve_left (Nat.succ_ne_zero _)
    exact lv_bipush hx hb hd rfl (k LS hl)
  · obtain ⟨rfl, rfl⟩ := pmPush_inv h
    obtain rfl : 3 = len := hn.resolve_left (Nat.succ_ne_zero _)
    exact lv_sipush hx hb hd rfl (k LS hl)
  · obtain ⟨rfl, x, hq, rfl⟩ := pmLdc_inv h
    obtain rfl : 2 = len := hn.resolve_left (Nat.succ_ne_zero _)
    exact lv_ldc hx hb hown (hts _ (ldcT_ok hq)) hd (k LS hl)
  · obtain ⟨rfl, x, hq, rfl⟩ := pmLdc_inv h
    obtain rfl : 3 = len := hn.resolve_left (Nat.succ_ne_zero _)
    exact lv_ldcw hx hb hown (hts _ (ldcT_ok hq)) hd (k LS hl)
  · obtain ⟨rfl, x, hq, rfl⟩ := pmLdc2_inv h
    obtain rfl : 3 = len := hn.resolve_left (Nat.succ_ne_zero _)
    exact lv_ldc2 hx hb hown (hts _ (ld2T_ok hq)) hd (k LS hl)
  · obtain ⟨rfl, x, hq, rfl⟩ := pmLdI_inv h
    obtain rfl : 2 = len := hn.resolve_left (Nat.succ_ne_zero _)
    exact lv_iload hx hb hd (hl.2.2 _ _ hq) (k LS hl)
  · obtain ⟨rfl, x, hq, rfl⟩ := pmLdI_inv h
    obtain rfl : 1 = len := hn.resolve_left (Nat.succ_ne_zero _)
    exact lv_iload_n hx hb hd rfl (hl.2.2 _ _ hq) (k LS hl)
  · obtain ⟨rfl, x, hq, rfl⟩ := pmLdL_inv h
    obtain rfl : 1 = len := hn.resolve_left (Nat.succ_ne_zero _)
    exact lv_lload_n hx hb hd rfl (hl.2.2 _ _ hq) (k LS hl)
  · obtain ⟨rfl, v, q, hq, rfl, hv⟩ := pmLdA_inv (a0 := a0) (b := b) h
    obtain rfl : 2 = len := hn.resolve_left (Nat.succ_ne_zero _)
    have k2 := k LS hl
    have h2 := hl.2.2 _ _ hq
    rw [List.map_cons, hv] at k2
    rw [hv] at h2
    exact lv_aload hx hb hd h2 k2
  · obtain ⟨rfl, v, q, hq, rfl, hv⟩ := pmLdA_inv (a0 := a0) (b := b) h
    obtain rfl : 1 = len := hn.resolve_left (Nat.succ_ne_zero _)
    have k2 := k LS hl
    have h2 := hl.2.2 _ _ hq
    rw [List.map_cons, hv] at k2
    rw [hv] at h2
    exact lv_aload_n hx hb hd rfl h2 k2
  · obtain ⟨hi, ho, x, rfl, rfl⟩ := pmStI_inv h
    obtain rfl : 2 = len := hn.resolve_left (Nat.succ_ne_zero _)
    exact lv_istore hx hb hd hH hi rfl (fun LS' h' => k LS' (pmLsR_set (v := .int x) hi ho h'))
  · obtain ⟨hi, ho, x, rfl, rfl⟩ := pmStI_inv h
    obtain rfl : 1 = len := hn.resolve_left (Nat.succ_ne_zero _)
    exact lv_istore_n hx hb hd rfl hH hi rfl (fun LS' h' => k LS' (pmLsR_set (v := .int x) hi ho h'))
  · obtain ⟨hi, ho, x, rfl, rfl⟩ := pmStA_inv h
    obtain rfl : 2 = len := hn.resolve_left (Nat.succ_ne_zero _)
    exact lv_astore hx hb hd hH hi rfl (fun LS' h' => k LS' (pmLsR_set (v := .ref x) hi ho h'))
  · obtain ⟨hi, ho, x, rfl, rfl⟩ := pmStA_inv h
    obtain rfl : 1 = len := hn.resolve_left (Nat.succ_ne_zero _)
    exact lv_astore_n hx hb hd rfl hH hi rfl (fun LS' h' => k LS' (pmLsR_set (v := .ref x) hi ho h'))
  · obtain ⟨hi, ho, rfl, x, hq, rfl⟩ := pmInc_inv h
    obtain rfl : 3 = len := hn.resolve_left (Nat.succ_ne_zero _)
    obtain ⟨q, hq2⟩ := hi1 _ x hq
    exact lv_iinc hx hb hd hH hq2 rfl hi rfl (fun LS' h' => k LS' (pmLsR_set (v := .int (x + Int32.ofInt _)) hi ho h'))
  · obtain ⟨rfl, x, y, r, rfl, rfl⟩ := pmBi_inv h
    obtain rfl : 1 = len := hn.resolve_left (Nat.succ_ne_zero _)
    exact lv_iadd hx hb hd (k LS hl)
  · obtain ⟨rfl, x, y, r, rfl, rfl⟩ := pmBi_inv h
    obtain rfl : 1 = len := hn.resolve_left (Nat.succ_ne_zero _)
    exact lv_isub hx hb hd (k LS hl)
  · obtain ⟨rfl, x, y, r, rfl, rfl⟩ := pmBi_inv h
    obtain rfl : 1 = len := hn.resolve_left (Nat.succ_ne_zero _)
    exact lv_imul hx hb hd (k LS hl)
  · obtain ⟨rfl, x, y, r, rfl, rfl⟩ := pmBi_inv h
    obtain rfl : 1 = len := hn.resolve_left (Nat.succ_ne_zero _)
    exact lv_iand hx hb hd (k LS hl)
  · obtain ⟨rfl, x, y, r, rfl, rfl⟩ := pmBi_inv h
    obtain rfl : 1 = len := hn.resolve_left (Nat.succ_ne_zero _)
    exact lv_ior hx hb hd (k LS hl)
  · obtain ⟨rfl, x, y, r, rfl, rfl⟩ := pmBi_inv h
    obtain rfl : 1 = len := hn.resolve_left (Nat.succ_ne_zero _)
    exact lv_ixor hx hb hd (k LS hl)
  · obtain ⟨rfl, x, y, r, rfl, rfl⟩ := pmBi_inv h
    obtain rfl : 1 = len := hn.resolve_left (Nat.succ_ne_zero _)
    exact lv_ishl hx hb hd (k LS hl)
  · obtain ⟨rfl, x, y, r, rfl, rfl⟩ := pmBi_inv h
    obtain rfl : 1 = len := hn.resolve_left (Nat.succ_ne_zero _)
    exact lv_ishr hx hb hd (k LS hl)
  · obtain ⟨rfl, x, y, r, rfl, rfl⟩ := pmBi_inv h
    obtain rfl : 1 = len := hn.resolve_left (Nat.succ_ne_zero _)
    exact lv_iushr hx hb hd rfl (k LS hl)
  · obtain ⟨rfl, x, y, r, hy, rfl, rfl⟩ := pmBd_inv h
    obtain rfl : 1 = len := hn.resolve_left (Nat.succ_ne_zero _)
    exact lv_idiv hx hb hd hy (k LS hl)
  · obtain ⟨rfl, x, y, r, hy, rfl, rfl⟩ := pmBd_inv h
    obtain rfl : 1 = len := hn.resolve_left (Nat.succ_ne_zero _)
    exact lv_irem hx hb hd hy (k LS hl)
  · obtain ⟨rfl, x, r, rfl, rfl⟩ := pmIL_inv h
    obtain rfl : 1 = len := hn.resolve_left (Nat.succ_ne_zero _)
    exact lv_i2l hx hb hd rfl (k LS hl)
  · obtain ⟨rfl, x, r, rfl, rfl⟩ := pmLI_inv h
    obtain rfl : 1 = len := hn.resolve_left (Nat.succ_ne_zero _)
    exact lv_l2i hx hb hd rfl (k LS hl)
  · obtain ⟨rfl, x, y, r, rfl, rfl⟩ := pmBl_inv h
    obtain rfl : 1 = len := hn.resolve_left (Nat.succ_ne_zero _)
    exact lv_land hx hb hd (k LS hl)
  · obtain ⟨rfl, x, y, r, rfl, rfl⟩ := pmBl_inv h
    obtain rfl : 1 = len := hn.resolve_left (Nat.succ_ne_zero _)
    exact lv_lor hx hb hd (k LS hl)
  · obtain ⟨rfl, x, y, r, rfl, rfl⟩ := pmBs_inv h
    obtain rfl : 1 = len := hn.resolve_left (Nat.succ_ne_zero _)
    exact lv_lshl hx hb hd rfl (k LS hl)
  · obtain ⟨rfl, x, y, r, rfl, rfl⟩ := pmBs_inv h
    obtain rfl : 1 = len := hn.resolve_left (Nat.succ_ne_zero _)
    exact lv_lshr hx hb hd rfl (k LS hl)
  · obtain ⟨rfl, v, r, hc, rfl, rfl⟩ := pmDup_inv h
    obtain rfl : 1 = len := hn.resolve_left (Nat.succ_ne_zero _)
    exact lv_dup hx hb hd (by rw [pmCv_cat]; exact hc) (k LS hl)
  · obtain ⟨rfl, v, w, r, hc, hw, rfl, rfl⟩ := pmDup2_inv h
    obtain rfl : 1 = len := hn.resolve_left (Nat.succ_ne_zero _)
    exact lv_dup2_11 hx hb hd (by rw [pmCv_cat]; exact hc) (by rw [pmCv_cat]; exact hw) (k LS hl)
  · cases h
end PMA
theorem pm1_len {j : Nat} {ins : Instr} {ls ls' : pmLs} {st st' : List Value} (h : pm1 j ins ls st = some (ls', st')) : ls'.length = ls.length := by
  unfold pm1 at h
  split at h
  all_goals first
    | (rw [(pmPush_inv h).1]; done)
    | (rw [(pmBi_inv h).1]; done)
    | (rw [(pmBd_inv h).1]; done)
    | (rw [(pmBl_inv h).1]; done)
    | (rw [(pmBs_inv h).1]; done)
    | (rw [(pmIL_inv h).1]; done)
    | (rw [(pmLI_inv h).1]; done)
    | (rw [(pmLdI_inv h).1]; done)
    | (rw [(pmLdL_inv h).1]; done)
    | (rw [(pmLdA_inv (a0 := 0) (b := 0) h).1]; done)
    | (rw [(pmDup_inv h).1]; done)
    | (rw [(pmDup2_inv h).1]; done)
    | (rw [(pmLdc_inv h).1]; done)
    | (rw [(pmLdc2_inv h).1]; done)
    | (obtain ⟨_, _, _, _, e⟩ := pmStI_inv h; rw [e, List.length_set]; done)
    | (obtain ⟨_, _, _, _, e⟩ := pmStA_inv h; rw [e, List.length_set]; done)
    | (obtain ⟨_, _, _, _, _, e⟩ := pmInc_inv h; rw [e, List.length_set]; done)
    | (cases h; done)
