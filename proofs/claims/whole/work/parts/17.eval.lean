def pmS0 : pmS := (0, fun _ => 0)
theorem pmArL_S {S : pmS} {tag : Nat} {st : List Value} {h : pmH} {a : List Value × pmH} (hh : pmArL pmS0 tag st h = some a) : pmArL S tag st h = some a := by
  obtain ⟨st', h'⟩ := a
  obtain ⟨rfl, ⟨i, c, r, n, rfl, hk, hi, rfl⟩ | ⟨i, z, r, rfl, -, hi, rfl⟩⟩ := pmArL_inv hh
  · unfold pmArL
    simp only [hk, hi, beq_self_eq_true, Bool.and_self, if_true]
  · exact absurd (Or.inr (Nat.zero_le _)) (pmIn_in hi)
theorem pmLen_S {S : pmS} {st : List Value} {h : pmH} {a : List Value × pmH} (hh : pmLen pmS0 st h = some a) : pmLen S st h = some a := by
  unfold pmLen at hh ⊢
  split at hh
  · exact hh
  · rw [if_pos (show pmS0.1 = 0 from rfl)] at hh
    cases hh
  · cases hh
theorem pm3_S {S : pmS} {j : Nat} {ins : Instr} {st : List Value} {h : pmH} {a : List Value × pmH} (hh : pm3 pmS0 j ins st h = some a) : pm3 S j ins st h = some a := by
  unfold pm3 at hh ⊢
  split at hh
  all_goals first
    | exact hh
    | exact pmArL_S hh
    | exact pmLen_S hh
    | (cases hh; done)
theorem pm3_N {S : pmS} {j : Nat} {ins : Instr} {st : List Value} {h : pmH} (hh : pm3 pmS0 j ins st h = none) : pm3 S j ins st h = none ∨ (pmC j ins st h.1 = none ∧ pmT j ins st = none) := by
  cases ins
  all_goals first
    | exact Or.inr ⟨rfl, rfl⟩
    | exact Or.inl hh
/-- the same machine as a function -/
def pmFn (cl : Nat → List Value → pmH → Option (Option Value × pmH)) (j : Nat) : Nat → Nat → pmLs → List Value → pmH → Option (Option Value × pmH)
  | 0, _, _, _, _ => none
  | n + 1, pc, ls, st, h => match codT j pc with
    | none => none
    | some (ins, len) => match pm1 j ins ls st with
      | some (l1, s1) => pmFn cl j n (pc + len) l1 s1 h
      | none => match pm2 ins pc st with
        | some (p1, s1) => pmFn cl j n p1 ls s1 h
        | none => match pm3 pmS0 j ins st h with
          | some (s1, h1) => pmFn cl j n (pc + len) ls s1 h1
          | none => match pmC j ins st h.1 with
            | some (j1, av, rest) => (match cl j1 av h with
              | some (v, h1) => pmFn cl j n (pc + len) ls (v.toList ++ rest) h1
              | none => none)
            | none => (match pmT j ins st with
              | some r => some (r, h)
              | none => none)
def pmFx (F : Nat) : Nat → Nat → List Value → pmH → Option (Option Value × pmH)
  | 0, _, _, _ => none
  | d + 1, j, av, h => if Nat.ble (pmSl av).length (mxlT j) = true then pmFn (pmFx F d) j F 0 (pmEnt av (mxlT j)) [] h else none
theorem pmFn_R {S : pmS} {cf : Nat → List Value → pmH → Option (Option Value × pmH)} {cl : Nat → List Value → pmH → Option Value → pmH → Prop} (hc : ∀ j av h r h', cf j av h = some (r, h') → cl j av h r h') {j : Nat} : ∀ (n pc : Nat) (ls : pmLs) (st : List Value) (h : pmH) (r : Option Value) (h' : pmH), pmFn cf j n pc ls st h = some (r, h') → pmR S cl j n pc ls st h r h' := by
  intro n
  induction n with
  | zero => intro pc ls st h r h' hh; unfold pmFn at hh; cases hh
  | succ n ih =>
    intro pc ls st h r h' hh
    unfold pmFn at hh
    unfold pmR
    cases e0 : codT j pc with
    | none =>
      rw [e0] at hh
      cases hh
    | some il =>
      obtain ⟨ins, len⟩ := il
      rw [e0] at hh
      dsimp only at hh ⊢
      cases e1 : pm1 j ins ls st with
      | some a =>
        obtain ⟨l1, s1⟩ := a
        rw [e1] at hh
        exact ih _ _ _ _ _ _ hh
      | none =>
        rw [e1] at hh
        dsimp only at hh ⊢
        cases e2 : pm2 ins pc st with
        | some a =>
          obtain ⟨p1, s1⟩ := a
          rw [e2] at hh
          exact ih _ _ _ _ _ _ hh
        | none =>
          rw [e2] at hh
          dsimp only at hh ⊢
          cases e3 : pm3 pmS0 j ins st h with
          | some a =>
            obtain ⟨s1, h1⟩ := a
            rw [e3] at hh
            rw [pm3_S e3]
            exact ih _ _ _ _ _ _ hh
          | none =>
            rw [e3] at hh
            dsimp only at hh
            rcases pm3_N (S := S) e3 with e6 | ⟨e6, e7⟩
            · rw [e6]
              dsimp only
              cases e4 : pmC j ins st h.1 with
              | some a =>
                obtain ⟨j1, av, rest⟩ := a
                rw [e4] at hh
                dsimp only at hh
                cases e5 : cf j1 av h with
                | none =>
                  rw [e5] at hh
                  cases hh
                | some b =>
                  obtain ⟨v, h1⟩ := b
                  rw [e5] at hh
                  exact ⟨v, h1, hc _ _ _ _ _ e5, ih _ _ _ _ _ _ hh⟩
              | none =>
                rw [e4] at hh
                dsimp only at hh ⊢
                cases e5 : pmT j ins st with
                | none =>
                  rw [e5] at hh
                  cases hh
                | some q =>
                  rw [e5] at hh
                  cases hh
                  exact ⟨rfl, rfl⟩
            · rw [e6] at hh
              dsimp only at hh
              rw [e7] at hh
              cases hh
theorem pmFx_X {S : pmS} {F : Nat} : ∀ (d j : Nat) (av : List Value) (h : pmH) (r : Option Value) (h' : pmH), pmFx F d j av h = some (r, h') → pmX S d j av h r h' := by
  intro d
  induction d with
  | zero => intro j av h r h' hh; unfold pmFx at hh; cases hh
  | succ d ih =>
    intro j av h r h' hh
    unfold pmFx at hh
    split at hh
    · rename_i hs
      exact ⟨Nat.le_of_ble_eq_true hs, F, pmFn_R ih _ _ _ _ _ _ _ hh⟩
    · cases hh
def pmV0 : pmV := fun _ _ => .int 0
/-- the cells behind both constructors: what they hold -/
def iniV (c k : Nat) : Value := match fxT c k with
  | 0 => if c = 10 ∨ c = 114 then .int (-1) else .int 0
  | 1 => if c = 18 then .ref (19 + 5 * k) else if c = 65 then .ref (66 + 5 * k) else .null
  | q + 2 => .ref q
def ckK (n : Nat) (o : Option (Option Value × pmH)) : Bool := match o with
  | some (none, (K1, _)) => decide (K1 = kdT0.take n)
  | _ => false
def ckV (lo n : Nat) (o : Option (Option Value × pmH)) : Bool := match o with
  | some (none, (_, V1)) => (List.range n).all (fun c => (List.range (kdT0.getD (lo + c) (0, 0)).2).all (fun k => decide (V1 (lo + c) k = iniV (lo + c) k)))
  | _ => false
def pmA1 : pmH := ([(10, 6)], pmRow pmV0 0 (pmDf 6))
def pmC1 : Option (Option Value × pmH) := pmFx 400 80 1 [.ref 0] pmA1
theorem ck_C1k : ckK 112 pmC1 = true := by decide +kernel
theorem ck_C1a : ckV 0 56 pmC1 = true := by decide +kernel
theorem ck_C1b : ckV 56 56 pmC1 = true := by decide +kernel
