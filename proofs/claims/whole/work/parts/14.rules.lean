/-- one step that neither jumps by a value nor writes -/
def pmStp (S : pmS) (j pc : Nat) (ls : pmLs) (st : List Value) (h : pmH) : Option (Nat × pmLs × List Value) := match codT j pc with
  | none => none
  | some (ins, len) => match pm1 j ins ls st with
    | some (l1, s1) => some (pc + len, l1, s1)
    | none => match ins with
      | .goto off => (match pmTg pc off st with
        | some (p1, s1) => some (p1, ls, s1)
        | none => none)
      | .getfield i => (match pmGet (fldT j i) st h with
        | some (s1, _) => some (pc + len, ls, s1)
        | none => none)
      | .arraylength => (match pmLen S st h with
        | some (s1, _) => some (pc + len, ls, s1)
        | none => none)
      | _ => none
def pmSeg (S : pmS) (j : Nat) (h : pmH) : Nat → Nat → pmLs → List Value → Option (Nat × pmLs × List Value)
  | 0, pc, ls, st => some (pc, ls, st)
  | n + 1, pc, ls, st => match pmStp S j pc ls st h with
    | none => none
    | some (p1, l1, s1) => pmSeg S j h n p1 l1 s1
def pmU (S : pmS) (d j pc : Nat) (ls : pmLs) (st : List Value) (h : pmH) (r : Option Value) (h' : pmH) : Prop := ∃ n, pmR S (pmX S d) j n pc ls st h r h'
section PMU
variable {S : pmS} {d j pc len : Nat} {ls ls' : pmLs} {st st' : List Value} {h h1 h' : pmH} {r : Option Value} {ins : Instr}
theorem pmU_1 (hc : codT j pc = some (ins, len)) (h1 : pm1 j ins ls st = some (ls', st')) (k : pmU S d j (pc + len) ls' st' h r h') : pmU S d j pc ls st h r h' := by
  obtain ⟨n, k⟩ := k
  refine ⟨n + 1, ?_⟩
  unfold pmR
  simp only [hc, h1]
  exact k
theorem pmU_2 {pc' : Nat} (hc : codT j pc = some (ins, len)) (h0 : pm1 j ins ls st = none) (h1 : pm2 ins pc st = some (pc', st')) (k : pmU S d j pc' ls st' h r h') : pmU S d j pc ls st h r h' := by
  obtain ⟨n, k⟩ := k
  refine ⟨n + 1, ?_⟩
  unfold pmR
  simp only [hc, h0, h1]
  exact k
theorem pmU_3 (hc : codT j pc = some (ins, len)) (h0 : pm1 j ins ls st = none) (h2 : pm2 ins pc st = none) (h3 : pm3 S j ins st h = some (st', h1)) (k : pmU S d j (pc + len) ls st' h1 r h') : pmU S d j pc ls st h r h' := by
  obtain ⟨n, k⟩ := k
  refine ⟨n + 1, ?_⟩
  unfold pmR
  simp only [hc, h0, h2, h3]
  exact k
theorem pmU_C {j' : Nat} {av rest : List Value} {v : Option Value} (hc : codT j pc = some (ins, len)) (h0 : pm1 j ins ls st = none) (h2 : pm2 ins pc st = none) (h3 : pm3 S j ins st h = none) (h4 : pmC j ins st h.1 = some (j', av, rest)) (hx : pmX S d j' av h v h1) (k : pmU S d j (pc + len) ls (v.toList ++ rest) h1 r h') : pmU S d j pc ls st h r h' := by
  obtain ⟨n, k⟩ := k
  refine ⟨n + 1, ?_⟩
  unfold pmR
  simp only [hc, h0, h2, h3, h4]
  exact ⟨v, h1, hx, k⟩
theorem pmU_T (hc : codT j pc = some (ins, len)) (h0 : pm1 j ins ls st = none) (h2 : pm2 ins pc st = none) (h3 : pm3 S j ins st h = none) (h4 : pmC j ins st h.1 = none) (h5 : pmT j ins st = some r) : pmU S d j pc ls st h r h := by
  refine ⟨1, ?_⟩
  unfold pmR
  simp only [hc, h0, h2, h3, h4]
  first | exact ⟨h5, rfl⟩ | exact ⟨h5, trivial⟩
theorem pmStp_U {pc' : Nat} (hs : pmStp S j pc ls st h = some (pc', ls', st')) (k : pmU S d j pc' ls' st' h r h') : pmU S d j pc ls st h r h' := by
  unfold pmStp at hs
  split at hs
  · cases hs
  · rename_i ins len hc
    split at hs
    · rename_i l1 s1 ha
      cases hs
      exact pmU_1 hc ha k
    · rename_i h0
      split at hs
      · split at hs
        · rename_i p1 s1 ha
          cases hs
          exact pmU_2 hc h0 ha k
        · cases hs
      · split at hs
        · rename_i s1 h1 ha
          cases hs
          obtain rfl := (pmGet_inv ha).1
          exact pmU_3 hc h0 rfl ha k
        · cases hs
      · split at hs
        · rename_i s1 h1 ha
          cases hs
          obtain rfl := (pmLen_inv ha).1
          exact pmU_3 hc h0 rfl ha k
        · cases hs
      · cases hs
theorem pmSeg_U : ∀ (n : Nat) {pc pc' : Nat} {ls ls' : pmLs} {st st' : List Value}, pmSeg S j h n pc ls st = some (pc', ls', st') → pmU S d j pc' ls' st' h r h' → pmU S d j pc ls st h r h'
  | 0, _, _, _, _, _, _, hs, k => by
    cases hs
    exact k
  | n + 1, _, _, _, _, _, _, hs, k => by
    unfold pmSeg at hs
    split at hs
    · cases hs
    · rename_i p1 l1 s1 ha
      exact pmStp_U ha (pmSeg_U n hs k)
theorem pmU_X {av : List Value} (hs : Nat.ble (pmSl av).length (mxlT j) = true) (k : pmU S d j 0 (pmEnt av (mxlT j)) [] h r h') : pmX S (d + 1) j av h r h' := ⟨Nat.le_of_ble_eq_true hs, k⟩
end PMU
/-- fewer locals known -/
def pmLe (a b : pmLs) : Prop := a.length = b.length ∧ (∀ (i : Nat) (v : Value), a[i]? = some (some v) → b[i]? = some (some v)) ∧ ∀ (i : Nat) (v : Value), b[i]? = some (some v) → v.category = 2 → a[i]? = some (some v)
theorem le_nil : pmLe [] [] := ⟨rfl, fun _ _ h => h, fun _ _ h _ => h⟩
theorem le_s {o : Option Value} {a b : pmLs} (h : pmLe a b) : pmLe (o :: a) (o :: b) := by
  refine ⟨by rw [List.length_cons, List.length_cons, h.1], fun i v => ?_, fun i v => ?_⟩
  · cases i with
    | zero => exact fun q => q
    | succ i => exact h.2.1 i v
  · cases i with
    | zero => exact fun q _ => q
    | succ i => exact h.2.2 i v
theorem le_v {w : Value} {a b : pmLs} (hw : w.category = 1) (h : pmLe a b) : pmLe (none :: a) (some w :: b) := by
  refine ⟨by rw [List.length_cons, List.length_cons, h.1], fun i v => ?_, fun i v => ?_⟩
  · cases i with
    | zero => exact fun q => by cases q
    | succ i => exact h.2.1 i v
  · cases i with
    | zero => exact fun q z => by cases q; rw [hw] at z; cases z
    | succ i => exact h.2.2 i v
theorem le_ok {a b : pmLs} (h : pmLe a b) {i : Nat} (ho : pmOkS a i = true) : pmOkS b i = true := by
  unfold pmOkS at ho ⊢
  cases i with
  | zero => rfl
  | succ k =>
    simp only at ho ⊢
    split
    · rename_i v hv
      rw [h.2.2 k _ hv rfl] at ho
      exact ho
    · rename_i v hv
      rw [h.2.2 k _ hv rfl] at ho
      exact ho
    · rfl
theorem le_set {a b : pmLs} (h : pmLe a b) (i : Nat) (w : Option Value) : pmLe (a.set i w) (b.set i w) := by
  refine ⟨by rw [List.length_set, List.length_set, h.1], fun k v => ?_, fun k v => ?_⟩
  · rw [List.getElem?_set, List.getElem?_set, h.1]
    split
    · exact fun q => q
    · exact h.2.1 k v
  · rw [List.getElem?_set, List.getElem?_set, h.1]
    split
    · exact fun q _ => q
    · exact h.2.2 k v
theorem pm1_le {j : Nat} {ins : Instr} {a b a' : pmLs} {st st' : List Value} (hl : pmLe a b) (h : pm1 j ins a st = some (a', st')) : ∃ b', pm1 j ins b st = some (b', st') ∧ pmLe a' b' := by
  unfold pm1 at h ⊢
  have inc : ∀ {i : Nat}, i < a.length → i < b.length := fun q => by rw [← hl.1]; exact q
  split at h
  all_goals first
    | (obtain ⟨rfl, rfl⟩ := pmPush_inv h; exact ⟨b, rfl, hl⟩)
    | (obtain ⟨rfl, x, y, r, rfl, rfl⟩ := pmBi_inv h; exact ⟨b, rfl, hl⟩)
    | (obtain ⟨rfl, x, y, r, hy, rfl, rfl⟩ := pmBd_inv h; exact ⟨b, by unfold pmBd; simp only [hy, if_false], hl⟩)
    | (obtain ⟨rfl, x, y, r, rfl, rfl⟩ := pmBl_inv h; exact ⟨b, rfl, hl⟩)
    | (obtain ⟨rfl, x, y, r, rfl, rfl⟩ := pmBs_inv h; exact ⟨b, rfl, hl⟩)
    | (obtain ⟨rfl, x, r, rfl, rfl⟩ := pmIL_inv h; exact ⟨b, rfl, hl⟩)
    | (obtain ⟨rfl, x, r, rfl, rfl⟩ := pmLI_inv h; exact ⟨b, rfl, hl⟩)
    | (obtain ⟨rfl, x, hq, rfl⟩ := pmLdc_inv h; exact ⟨b, by rw [hq]; rfl, hl⟩)
    | (obtain ⟨rfl, x, hq, rfl⟩ := pmLdc2_inv h; exact ⟨b, by rw [hq]; rfl, hl⟩)
    | (obtain ⟨rfl, x, hq, rfl⟩ := pmLdI_inv h; exact ⟨b, by unfold pmLdI; rw [hl.2.1 _ _ hq], hl⟩)
    | (obtain ⟨rfl, x, hq, rfl⟩ := pmLdL_inv h; exact ⟨b, by unfold pmLdL; rw [hl.2.1 _ _ hq], hl⟩)
    | (unfold pmLdA at h ⊢; split at h
       · rename_i x hq; cases h; exact ⟨b, by rw [hl.2.1 _ _ hq], hl⟩
       · rename_i x hq; cases h; exact ⟨b, by rw [hl.2.1 _ _ hq], hl⟩
       · cases h)
    | (obtain ⟨hi, ho, x, rfl, rfl⟩ := pmStI_inv h; exact ⟨_, by unfold pmStI; simp only [Nat.blt_eq.mpr (inc hi), le_ok hl ho, Bool.and_self, if_true], le_set hl _ _⟩)
    | (obtain ⟨hi, ho, x, rfl, rfl⟩ := pmStA_inv h; exact ⟨_, by unfold pmStA; simp only [Nat.blt_eq.mpr (inc hi), le_ok hl ho, Bool.and_self, if_true], le_set hl _ _⟩)
    | (obtain ⟨hi, ho, rfl, x, hq, rfl⟩ := pmInc_inv h; exact ⟨_, by unfold pmInc; simp only [hl.2.1 _ _ hq, Nat.blt_eq.mpr (inc hi), le_ok hl ho, Bool.and_self, if_true], le_set hl _ _⟩)
    | (obtain ⟨rfl, v, r, hc, rfl, rfl⟩ := pmDup_inv h; exact ⟨b, by unfold pmDup; simp only [hc, if_true], hl⟩)
    | (obtain ⟨rfl, v, w, r, hc, hw, rfl, rfl⟩ := pmDup2_inv h; exact ⟨b, by unfold pmDup2; simp only [hc, hw, if_true], hl⟩)
    | (cases h; done)
/-- instructions that pm1 alone knows of -/
def pmOwn1 (ins : Instr) : Bool := match ins with
  | .iconst _ | .bipush _ | .sipush _ | .ldc _ | .ldc_w _ | .ldc2_w _ | .iload _ | .iload_n _ | .lload_n _ | .aload _ | .aload_n _ | .istore _ | .istore_n _ | .astore _ | .astore_n _ | .iinc _ _ | .iadd | .isub | .imul | .iand | .ior | .ixor | .ishl | .ishr | .iushr | .idiv | .irem | .i2l | .l2i | .land | .lor | .lshl | .lshr | .dup | .dup2 => true
  | _ => false
theorem pm1_own {j : Nat} {ins : Instr} {ls : pmLs} {st : List Value} (h : pmOwn1 ins = false) : pm1 j ins ls st = none := by
  unfold pmOwn1 at h
  split at h
  all_goals first
    | (cases h; done)
    | skip
  unfold pm1
  split
  all_goals first
    | rfl
    | (exfalso; rename_i q; first | exact q _ rfl | exact q _ _ rfl | exact q rfl)
    | (exfalso; simp_all)
theorem pm_own2 {ins : Instr} {pc : Nat} {st : List Value} (h : pmOwn1 ins = true) : pm2 ins pc st = none ∧ (∀ S j h, pm3 S j ins st h = none) ∧ (∀ j K, pmC j ins st K = none) ∧ ∀ j, pmT j ins st = none := by
  unfold pmOwn1 at h
  split at h
  all_goals first
    | exact ⟨rfl, fun _ _ _ => rfl, fun _ _ => rfl, fun _ => rfl⟩
    | cases h
theorem pmR_le {S : pmS} {cl : Nat → List Value → pmH → Option Value → pmH → Prop} {j : Nat} : ∀ (n pc : Nat) (a b : pmLs) (st : List Value) (h : pmH) (r : Option Value) (h' : pmH), pmLe a b → pmR S cl j n pc a st h r h' → pmR S cl j n pc b st h r h' := by
  intro n
  induction n with
  | zero => intro pc a b st h r h' _ hh; exact hh
  | succ n ih =>
    intro pc a b st h r h' hl hh
    unfold pmR at hh ⊢
    cases hc : codT j pc with
    | none =>
      rw [hc] at hh
      exact hh.elim
    | some il =>
      obtain ⟨ins, len⟩ := il
      rw [hc] at hh
      dsimp only at hh ⊢
      cases ho : pmOwn1 ins with
      | true =>
        obtain ⟨o2, o3, o4, o5⟩ := pm_own2 (pc := pc) (st := st) ho
        cases hx : pm1 j ins a st with
        | some x =>
          obtain ⟨x1, x2⟩ := x
          rw [hx] at hh
          obtain ⟨b', hb, hl'⟩ := pm1_le hl hx
          rw [hb]
          exact ih _ _ _ _ _ _ _ hl' hh
        | none =>
          rw [hx] at hh
          dsimp only at hh
          rw [o2, o3, o4, o5] at hh
          dsimp only at hh
          cases hh.1
      | false =>
        rw [pm1_own ho] at hh ⊢
        dsimp only at hh ⊢
        cases hx : pm2 ins pc st with
        | some x =>
          rw [hx] at hh
          exact ih _ _ _ _ _ _ _ hl hh
        | none =>
          rw [hx] at hh
          dsimp only at hh ⊢
          cases hy : pm3 S j ins st h with
          | some y =>
            rw [hy] at hh
            exact ih _ _ _ _ _ _ _ hl hh
          | none =>
            rw [hy] at hh
            dsimp only at hh ⊢
            cases hw : pmC j ins st h.1 with
            | some w =>
              rw [hw] at hh
              obtain ⟨v, h1, hcl, hh⟩ := hh
              exact ⟨v, h1, hcl, ih _ _ _ _ _ _ _ hl hh⟩
            | none =>
              rw [hw] at hh
              exact hh
theorem pmU_le {S : pmS} {d j pc : Nat} {a b : pmLs} {st : List Value} {h h' : pmH} {r : Option Value} (hl : pmLe a b) (k : pmU S d j pc a st h r h') : pmU S d j pc b st h r h' := by
  obtain ⟨n, k⟩ := k
  exact ⟨n, pmR_le n _ _ _ _ _ _ _ hl k⟩
