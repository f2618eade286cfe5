def iniM (c k : Nat) : Int32 := match fxT c k with
  | 0 => if c = 10 ∨ c = 114 then -1 else 0
  | 1 => if c = 18 then nI (19 + 5 * k) else if c = 65 then nI (66 + 5 * k) else -1
  | _ => 0
def ini0 : Mem := iniM
def ini1 : Mem := fun c k => iniM (112 + c) k
theorem mg_ini (c k : Nat) : mg ini0 ini1 c k = iniM c k := by
  unfold mg ini0 ini1
  by_cases h : c < 112
  · rw [if_pos h]
  · rw [if_neg h, show 112 + (c - 112) = c by omega]
theorem shp_ini {c k : Nat} (hk : k < 100000) : shp ini0 ini1 c k = iniV c k := by
  unfold shp iniV
  rw [mg_ini]
  unfold iniM
  generalize fxT c k = t
  match t with
  | 0 =>
    show Value.int (if c = 10 ∨ c = 114 then -1 else 0) = if c = 10 ∨ c = 114 then Value.int (-1) else Value.int 0
    by_cases h : c = 10 ∨ c = 114
    · rw [if_pos h, if_pos h]
    · rw [if_neg h, if_neg h]
  | 1 =>
    show (if (if c = 18 then nI (19 + 5 * k) else if c = 65 then nI (66 + 5 * k) else -1) < 0 then Value.null else Value.ref (if c = 18 then nI (19 + 5 * k) else if c = 65 then nI (66 + 5 * k) else -1).toNatClampNeg) = if c = 18 then Value.ref (19 + 5 * k) else if c = 65 then Value.ref (66 + 5 * k) else Value.null
    by_cases h : c = 18
    · simp only [h, if_true]
      rw [if_neg (nI_pos (by omega)), nI_clamp (by omega)]
    · by_cases h2 : c = 65
      · simp only [if_neg h, if_pos h2]
        rw [if_neg (nI_pos (by omega)), nI_clamp (by omega)]
      · simp only [h, h2, if_false]
        rfl
  | q + 2 => rfl
theorem ckK_inv {n : Nat} {o : Option (Option Value × pmH)} (h : ckK n o = true) : ∃ V1, o = some (none, (kdT0.take n, V1)) := by
  unfold ckK at h
  split at h
  · rename_i K1 V1
    rw [of_decide_eq_true h]
    exact ⟨_, rfl⟩
  · cases h
theorem ckV_inv {lo n c k : Nat} {K : pmK} {V : pmV} {o : Option (Option Value × pmH)} (h : ckV lo n o = true) (ho : o = some (none, (K, V))) (h1 : lo ≤ c) (h2 : c < lo + n) (hk : k < (kdT0.getD c (0, 0)).2) : V c k = iniV c k := by
  subst ho
  unfold ckV at h
  have h3 := List.all_eq_true.mp h (c - lo) (List.mem_range.mpr (by omega))
  rw [show lo + (c - lo) = c by omega] at h3
  exact of_decide_eq_true (List.all_eq_true.mp h3 k (List.mem_range.mpr hk))
theorem take_at {n c : Nat} {kd : Nat × Nat} (h : (kdT0.take n)[c]? = some kd) : c < n ∧ kdT0.getD c (0, 0) = kd := by
  have h1 := (List.getElem?_eq_some_iff.mp h).1
  rw [List.length_take] at h1
  have h2 : c < n := by omega
  rw [List.getElem?_take_of_lt h2] at h
  exact ⟨h2, pm_getDK h⟩
theorem V_C1 {V : pmV} (h : pmC1 = some (none, (kdT0.take 112, V))) : ∀ c kd, (kdT0.take 112)[c]? = some kd → ∀ k, k < kd.2 → V c k = iniV c k := by
  intro c kd hc k hk
  obtain ⟨h1, rfl⟩ := take_at hc
  by_cases h2 : c < 56
  · exact ckV_inv ck_C1a h (by omega) (by omega) hk
  · exact ckV_inv ck_C1b h (by omega) (by omega) hk
theorem V_C2 {V : pmV} (h : pmC2 = some (none, (kdT0.take 154, V))) : ∀ c kd, (kdT0.take 154)[c]? = some kd → ∀ k, k < kd.2 → V c k = iniV c k := by
  intro c kd hc k hk
  obtain ⟨h1, rfl⟩ := take_at hc
  by_cases h2 : c < 56
  · exact ckV_inv ck_C2a h (by omega) (by omega) hk
  · by_cases h3 : c < 112
    · exact ckV_inv ck_C2b h (by omega) (by omega) hk
    · by_cases h4 : c < 124
      · exact ckV_inv ck_C2c h (by omega) (by omega) hk
      · by_cases h5 : c < 125
        · exact ckV_inv ck_C2d h (by omega) (by omega) hk
        · by_cases h6 : c < 126
          · exact ckV_inv ck_C2e h (by omega) (by omega) hk
          · exact ckV_inv ck_C2f h (by omega) (by omega) hk
section PSt
variable {S : pmS} {cl : Nat → List Value → pmH → Option Value → pmH → Prop} {j pc len : Nat} {ls ls' : pmLs} {st st' : List Value} {h h1 : pmH} {ins : Instr}
theorem pmSt_1 (hc : codT j pc = some (ins, len)) (h1 : pm1 j ins ls st = some (ls', st')) : pmSt1 S cl j pc ls st h (pc + len) ls' st' h := by
  unfold pmSt1
  rw [hc]
  dsimp only
  rw [h1]
  exact ⟨rfl, rfl, rfl, rfl⟩
theorem pmSt_3 (hc : codT j pc = some (ins, len)) (h0 : pm1 j ins ls st = none) (h2 : pm2 ins pc st = none) (h3 : pm3 S j ins st h = some (st', h1)) : pmSt1 S cl j pc ls st h (pc + len) ls st' h1 := by
  unfold pmSt1
  rw [hc]
  dsimp only
  rw [h0]
  dsimp only
  rw [h2]
  dsimp only
  rw [h3]
  exact ⟨rfl, rfl, rfl, rfl⟩
theorem pmSt_C {j' : Nat} {av rest : List Value} {v : Option Value} (hc : codT j pc = some (ins, len)) (h0 : pm1 j ins ls st = none) (h2 : pm2 ins pc st = none) (h3 : pm3 S j ins st h = none) (h4 : pmC j ins st h.1 = some (j', av, rest)) (hx : cl j' av h v h1) : pmSt1 S cl j pc ls st h (pc + len) ls (v.toList ++ rest) h1 := by
  unfold pmSt1
  rw [hc]
  dsimp only
  rw [h0]
  dsimp only
  rw [h2]
  dsimp only
  rw [h3]
  dsimp only
  rw [h4]
  exact ⟨v, h1, hx, rfl, rfl, rfl, rfl⟩
end PSt
