/-- the same machine as a function -/
def pmFn (S : pmS) (cl : Nat → List Value → pmH → Option (Option Value × pmH)) (j : Nat) : Nat → Nat → pmLs → List Value → pmH → Option (Option Value × pmH)
  | 0, _, _, _, _ => none
  | n + 1, pc, ls, st, h => match codT j pc with
    | none => none
    | some (ins, len) => match pm1 j ins ls st with
      | some (l1, s1) => pmFn S cl j n (pc + len) l1 s1 h
      | none => match pm2 ins pc st with
        | some (p1, s1) => pmFn S cl j n p1 ls s1 h
        | none => match pm3 S j ins st h with
          | some (s1, h1) => pmFn S cl j n (pc + len) ls s1 h1
          | none => match pmC j ins st h.1 with
            | some (j1, av, rest) => (match cl j1 av h with
              | some (v, h1) => pmFn S cl j n (pc + len) ls (v.toList ++ rest) h1
              | none => none)
            | none => (match pmT j ins st with
              | some r => some (r, h)
              | none => none)
def pmFx (S : pmS) (F : Nat) : Nat → Nat → List Value → pmH → Option (Option Value × pmH)
  | 0, _, _, _ => none
  | d + 1, j, av, h => if Nat.ble (pmSl av).length (mxlT j) = true then pmFn S (pmFx S F d) j F 0 (pmEnt av (mxlT j)) [] h else none
theorem pmFn_R {S : pmS} {cf : Nat → List Value → pmH → Option (Option Value × pmH)} {cl : Nat → List Value → pmH → Option Value → pmH → Prop} (hc : ∀ j av h r h', cf j av h = some (r, h') → cl j av h r h') {j : Nat} : ∀ (n pc : Nat) (ls : pmLs) (st : List Value) (h : pmH) (r : Option Value) (h' : pmH), pmFn S cf j n pc ls st h = some (r, h') → pmR S cl j n pc ls st h r h' := by
  intro n
  induction n with
  | zero => intro pc ls st h r h' hh; unfold pmFn at hh; cases hh
  | succ n ih =>
    intro pc ls st h r h' hh
    unfold pmFn at hh
    unfold pmR
    cases e0 : codT j pc with
    | none =>
      rw [e0] at hh
      cases hh
    | some il =>
      obtain ⟨ins, len⟩ := il
      rw [e0] at hh
      dsimp only at hh ⊢
      cases e1 : pm1 j ins ls st with
      | some a =>
        obtain ⟨l1, s1⟩ := a
        rw [e1] at hh
        exact ih _ _ _ _ _ _ hh
      | none =>
        rw [e1] at hh
        dsimp only at hh ⊢
        cases e2 : pm2 ins pc st with
        | some a =>
          obtain ⟨p1, s1⟩ := a
          rw [e2] at hh
          exact ih _ _ _ _ _ _ hh
        | none =>
          rw [e2] at hh
          dsimp only at hh ⊢
          cases e3 : pm3 S j ins st h with
          | some a =>
            obtain ⟨s1, h1⟩ := a
            rw [e3] at hh
            exact ih _ _ _ _ _ _ hh
          | none =>
            rw [e3] at hh
            dsimp only at hh ⊢
            cases e4 : pmC j ins st h.1 with
            | some a =>
              obtain ⟨j1, av, rest⟩ := a
              rw [e4] at hh
              dsimp only at hh
              cases e5 : cf j1 av h with
              | none =>
                rw [e5] at hh
                cases hh
              | some b =>
                obtain ⟨v, h1⟩ := b
                rw [e5] at hh
                exact ⟨v, h1, hc _ _ _ _ _ e5, ih _ _ _ _ _ _ hh⟩
            | none =>
              rw [e4] at hh
              dsimp only at hh ⊢
              cases e5 : pmT j ins st with
              | none =>
                rw [e5] at hh
                cases hh
              | some q =>
                rw [e5] at hh
                cases hh
                exact ⟨rfl, rfl⟩
theorem pmFx_X {S : pmS} {F : Nat} : ∀ (d j : Nat) (av : List Value) (h : pmH) (r : Option Value) (h' : pmH), pmFx S F d j av h = some (r, h') → pmX S d j av h r h' := by
  intro d
  induction d with
  | zero => intro j av h r h' hh; unfold pmFx at hh; cases hh
  | succ d ih =>
    intro j av h r h' hh
    unfold pmFx at hh
    split at hh
    · rename_i hs
      exact ⟨Nat.le_of_ble_eq_true hs, F, pmFn_R ih _ _ _ _ _ _ _ hh⟩
    · cases hh
def pmV0 : pmV := fun _ _ => .int 0
/-- the new PermitSets at cell 0 -/
def pmN1 : pmH := ([(10, 6)], pmRow pmV0 0 (pmDf 6))
/-- what the constructors leave -/
def ckH (n : Nat) (K : pmK) (W : Nat → Nat → Value) (o : Option (Option Value × pmH)) : Bool := match o with
  | some (none, (K1, V1)) => decide (K1 = K.take n) && (List.range n).all (fun c => (List.range (K.getD c (0, 0)).2).all (fun k => decide (V1 c k = W c k)))
  | _ => false
