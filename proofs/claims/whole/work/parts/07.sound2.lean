theorem pmTg_inv {pc pc' : Nat} {off : Int} {st st' : List Value} (h : pmTg pc off st = some (pc', st')) : st' = st ∧ (pc : Int) + off = (pc' : Int) := by
  unfold pmTg at h
  split at h
  · rename_i hc
    cases h
    exact ⟨rfl, (Int.toNat_of_nonneg hc).symm⟩
  · cases h
theorem pmIf1_inv {c : ClassFile.Cond} {pc pc' : Nat} {off : Int} {st st' : List Value} (h : pmIf1 c pc off st = some (pc', st')) : ∃ x tg, st = .int x :: st' ∧ (pc : Int) + off = ((tg : Nat) : Int) ∧ ((pmCnd c x 0 = true ∧ pc' = tg) ∨ (¬ pmCnd c x 0 = true ∧ pc' = pc + 3)) := by
  unfold pmIf1 at h
  split at h
  · split at h
    · rename_i a ha
      obtain ⟨tg, r2⟩ := a
      obtain ⟨rfl, ht⟩ := pmTg_inv ha
      split at h
      · rename_i hc
        cases h
        exact ⟨_, _, rfl, ht, Or.inl ⟨hc, rfl⟩⟩
      · rename_i hc
        cases h
        exact ⟨_, _, rfl, ht, Or.inr ⟨hc, rfl⟩⟩
    · cases h
  · cases h
theorem pmIf2_inv {c : ClassFile.Cond} {pc pc' : Nat} {off : Int} {st st' : List Value} (h : pmIf2 c pc off st = some (pc', st')) : ∃ x y tg, st = .int y :: .int x :: st' ∧ (pc : Int) + off = ((tg : Nat) : Int) ∧ ((pmCnd c x y = true ∧ pc' = tg) ∨ (¬ pmCnd c x y = true ∧ pc' = pc + 3)) := by
  unfold pmIf2 at h
  split at h
  · split at h
    · rename_i a ha
      obtain ⟨tg, r2⟩ := a
      obtain ⟨rfl, ht⟩ := pmTg_inv ha
      split at h
      · rename_i hc
        cases h
        exact ⟨_, _, _, rfl, ht, Or.inl ⟨hc, rfl⟩⟩
      · rename_i hc
        cases h
        exact ⟨_, _, _, rfl, ht, Or.inr ⟨hc, rfl⟩⟩
    · cases h
  · cases h
theorem pm_br {c : Prop} {dc : Decidable c} {A B : Prop} {p1 t q : Nat} {F : Nat → Prop} (h : (decide c = true ∧ p1 = t) ∨ (¬ decide c = true ∧ p1 = q)) (k : F p1) : (c → F t) ∧ (¬ c → F q) := by
  rcases h with ⟨h, rfl⟩ | ⟨h, rfl⟩
  · exact ⟨fun _ => k, fun n => absurd (of_decide_eq_true h) n⟩
  · exact ⟨fun y => absurd (decide_eq_true y) h, fun _ => k⟩
section PMB
variable {p : Program} {l : Launch} {e : Env} {R : Room} {s : State} {m : MethodId} {args : Array Value} {below : List Frame} {meth : Method} {c : Code} {H : Heap} {locs : List Loc} {cells slots : Nat} {Q : State → Prop}
variable {cc : ByteArray} {pc pc' len a0 b j : Nat} {LS : Array Slot} {st st' : List Value} {ins : Instr}
set_option maxHeartbeats 4000000 in
theorem pm2_W (hx : p.tables.exec = Jvm.exec) (hb : c.code = cc) (hd : decode cc pc = .ok (ins, len)) (hn : pmSz ins = 0 ∨ pmSz ins = len) (h : pm2 ins pc st = some (pc', st'))
    (k : W p l e R s m args below meth c H locs cells slots Q (F0 m pc' LS (st'.map (pmCv a0 b)))) : W p l e R s m args below meth c H locs cells slots Q (F0 m pc LS (st.map (pmCv a0 b))) := by
  unfold pm2 at h
  split at h
  · obtain ⟨rfl, ht⟩ := pmTg_inv h
    obtain rfl : 3 = len := hn.resolve_left (Nat.succ_ne_zero _)
    exact lv_goto hx hb hd ht k
  · rename_i cn off
    obtain ⟨x, tg, rfl, ht, ho⟩ := pmIf1_inv h
    obtain rfl : 3 = len := hn.resolve_left (Nat.succ_ne_zero _)
    cases cn with
    | eq =>
      have q := pm_br (A := True) (B := True) (F := fun z => W p l e R s m args below meth c H locs cells slots Q (F0 m z LS (st'.map (pmCv a0 b)))) ho k
      exact lv_if_eq hx hb hd ht q.1 q.2
    | ne =>
      have q := pm_br (A := True) (B := True) (F := fun z => W p l e R s m args below meth c H locs cells slots Q (F0 m z LS (st'.map (pmCv a0 b)))) ho k
      exact lv_if_ne hx hb hd ht q.1 (fun z => q.2 (fun n => n z))
    | lt =>
      have q := pm_br (A := True) (B := True) (F := fun z => W p l e R s m args below meth c H locs cells slots Q (F0 m z LS (st'.map (pmCv a0 b)))) ho k
      exact lv_if_lt hx hb hd ht q.1 q.2
    | ge =>
      have q := pm_br (A := True) (B := True) (F := fun z => W p l e R s m args below meth c H locs cells slots Q (F0 m z LS (st'.map (pmCv a0 b)))) ho k
      exact lv_if_ge hx hb hd ht q.1 q.2
    | gt =>
      have q := pm_br (A := True) (B := True) (F := fun z => W p l e R s m args below meth c H locs cells slots Q (F0 m z LS (st'.map (pmCv a0 b)))) ho k
      exact lv_if_gt hx hb hd ht q.1 q.2
    | le =>
      have q := pm_br (A := True) (B := True) (F := fun z => W p l e R s m args below meth c H locs cells slots Q (F0 m z LS (st'.map (pmCv a0 b)))) ho k
      exact lv_if_le hx hb hd ht q.1 q.2
  · rename_i cn off
    obtain ⟨x, y, tg, rfl, ht, ho⟩ := pmIf2_inv h
    obtain rfl : 3 = len := hn.resolve_left (Nat.succ_ne_zero _)
    cases cn with
    | eq =>
      have q := pm_br (A := True) (B := True) (F := fun z => W p l e R s m args below meth c H locs cells slots Q (F0 m z LS (st'.map (pmCv a0 b)))) ho k
      exact lv_icmp_eq hx hb hd ht q.1 q.2
    | ne =>
      have q := pm_br (A := True) (B := True) (F := fun z => W p l e R s m args below meth c H locs cells slots Q (F0 m z LS (st'.map (pmCv a0 b)))) ho k
      exact lv_icmp_ne hx hb hd ht q.1 (fun z => q.2 (fun n => n z))
    | lt =>
      have q := pm_br (A := True) (B := True) (F := fun z => W p l e R s m args below meth c H locs cells slots Q (F0 m z LS (st'.map (pmCv a0 b)))) ho k
      exact lv_icmp_lt hx hb hd ht q.1 q.2
    | ge =>
      have q := pm_br (A := True) (B := True) (F := fun z => W p l e R s m args below meth c H locs cells slots Q (F0 m z LS (st'.map (pmCv a0 b)))) ho k
      exact lv_icmp_ge hx hb hd ht q.1 q.2
    | gt =>
      have q := pm_br (A := True) (B := True) (F := fun z => W p l e R s m args below meth c H locs cells slots Q (F0 m z LS (st'.map (pmCv a0 b)))) ho k
      exact lv_icmp_gt hx hb hd ht q.1 q.2
    | le =>
      have q := pm_br (A := True) (B := True) (F := fun z => W p l e R s m args below meth c H locs cells slots Q (F0 m z LS (st'.map (pmCv a0 b)))) ho k
      exact lv_icmp_le hx hb hd ht q.1 q.2
  · unfold pmTsw at h
    split at h
    · split at h
      · rename_i hc
        obtain ⟨rfl, ht⟩ := pmTg_inv h
        exact lv_tableOut hx hb hd hc ht k
      · rename_i hc
        split at h
        · rename_i off ho
          obtain ⟨rfl, ht⟩ := pmTg_inv h
          exact lv_tableIn hx hb hd (fun z => hc (Or.inl z)) (fun z => hc (Or.inr z)) ho ht k
        · cases h
    · cases h
  · unfold pmLsw at h
    split at h
    · split at h
      · rename_i hc
        obtain ⟨rfl, ht⟩ := pmTg_inv h
        exact lv_lookup hx hb hd hc rfl ht k
      · cases h
    · cases h
  · cases h
end PMB
