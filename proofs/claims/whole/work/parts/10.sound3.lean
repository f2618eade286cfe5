def pmWt (K : pmK) : Nat := (K.map Prod.snd).sum
theorem pmWt_app (K : pmK) (t n : Nat) : pmWt (K ++ [(t, n)]) = pmWt K + n := by
  unfold pmWt
  rw [List.map_append, List.sum_append]
  rfl
def pmCell (cI cZ cP : ClassId) (a0 b : Nat) (kd : Nat × Nat) (f : Nat → Value) : va_E := match kd.1 with
  | 0 => .inl (cI, 0, .inl (fun _ => 0))
  | 1 => .inl (cI, kd.2, .inl (fun j => pmVI (f j)))
  | 2 => .inl (cZ, kd.2, .inl (fun j => pmVI (f j)))
  | 3 => .inl (cP, kd.2, .inr (.inr (.inr (.inr (fun j => (pmVR (f j)).map (fun q => a0 + q))))))
  | t + 4 => .inr (t, (List.range kd.2).map (fun k => pmCv a0 b (f k)))
def pmPic (cI cZ cP : ClassId) (a0 b : Nat) (h : pmH) : va_W := (List.range h.1.length).map (fun i => (a0 + i, pmCell cI cZ cP a0 b (h.1.getD i (0, 0)) (h.2 i)))
theorem pm_rng {n i w : Nat} (h : (List.range n)[i]? = some w) : i < n ∧ w = i := by
  obtain ⟨h1, h2⟩ := List.getElem?_eq_some_iff.mp h
  rw [List.getElem_range] at h2
  rw [List.length_range] at h1
  exact ⟨h1, h2.symm⟩
theorem pm_rngAt {n i : Nat} (h : i < n) : (List.range n)[i]? = some i := by
  rw [List.getElem?_eq_some_iff]
  exact ⟨by rw [List.length_range]; exact h, List.getElem_range _⟩
theorem pm_getDK {K : pmK} {c : Nat} {kd : Nat × Nat} (h : K[c]? = some kd) : K.getD c (0, 0) = kd := by
  rw [List.getD_eq_getElem?_getD, h]
  rfl
section PMP
variable {cI cZ cP : ClassId} {a0 b : Nat} {h : pmH}
theorem pmPic_at {c : Nat} {kd : Nat × Nat} (hc : h.1[c]? = some kd) : (pmPic cI cZ cP a0 b h)[c]? = some (a0 + c, pmCell cI cZ cP a0 b kd (h.2 c)) := by
  unfold pmPic
  rw [List.getElem?_map, pm_rngAt (List.getElem?_eq_some_iff.mp hc).1]
  show some (a0 + c, pmCell cI cZ cP a0 b (h.1.getD c (0, 0)) (h.2 c)) = _
  rw [pm_getDK hc]
theorem pmPic_fst {i : Nat} {q : Nat × va_E} (hq : (pmPic cI cZ cP a0 b h)[i]? = some q) : i < h.1.length ∧ q.1 = a0 + i := by
  unfold pmPic at hq
  rw [List.getElem?_map] at hq
  cases hg : (List.range h.1.length)[i]? with
  | none => rw [hg] at hq; cases hq
  | some w =>
    obtain ⟨h1, rfl⟩ := pm_rng hg
    rw [hg] at hq
    cases hq
    exact ⟨h1, rfl⟩
theorem pmPic_len : (pmPic cI cZ cP a0 b h).length = h.1.length := by
  unfold pmPic
  rw [List.length_map, List.length_range]
theorem pmPic_D : va_D (fun q => a0 ≤ q) (pmPic cI cZ cP a0 b h) := by
  refine ⟨fun i j x y hi hj he => ?_, fun k q hk => ?_⟩
  · have h1 := (pmPic_fst hi).2
    have h2 := (pmPic_fst hj).2
    omega
  · have h1 := (pmPic_fst hk).2
    show a0 ≤ q.1
    omega
theorem pmPic_set {c : Nat} {kd : Nat × Nat} {V' : pmV} {E : va_E} (hc : h.1[c]? = some kd) (hE : E = pmCell cI cZ cP a0 b kd (V' c)) (ho : ∀ i, i ≠ c → V' i = h.2 i) : (pmPic cI cZ cP a0 b h).set c (a0 + c, E) = pmPic cI cZ cP a0 b (h.1, V') := by
  refine List.ext_getElem? fun i => ?_
  have hlt := (List.getElem?_eq_some_iff.mp hc).1
  by_cases hi : i = c
  · subst hi
    rw [List.getElem?_set_self (by rw [pmPic_len]; exact hlt), pmPic_at (h := (h.1, V')) hc, hE]
  · rw [List.getElem?_set_ne (Ne.symm hi)]
    unfold pmPic
    rw [List.getElem?_map, List.getElem?_map]
    cases hg : (List.range h.1.length)[i]? with
    | none => rfl
    | some w =>
      obtain ⟨-, rfl⟩ := pm_rng hg
      show some (a0 + w, pmCell cI cZ cP a0 b (h.1.getD w (0, 0)) (h.2 w)) = some (a0 + w, pmCell cI cZ cP a0 b (h.1.getD w (0, 0)) (V' w))
      rw [ho w hi]
theorem pmPut_ne {V : pmV} {c k i : Nat} {v : Value} (hi : i ≠ c) : pmPut V c k v i = V i := by
  funext q
  show (if i = c then _ else V i q) = V i q
  rw [if_neg hi]
theorem pmRow_ne {V : pmV} {c i : Nat} {f : Nat → Value} (hi : i ≠ c) : pmRow V c f i = V i := by
  funext q
  show (if i = c then _ else V i q) = V i q
  rw [if_neg hi]
theorem pmPut_eq {V : pmV} {c k q : Nat} {v : Value} : pmPut V c k v c q = if q = k then v else V c q := by
  show (if c = c then _ else V c q) = _
  rw [if_pos rfl]
theorem pmRow_eq {V : pmV} {c : Nat} {f : Nat → Value} : pmRow V c f c = f := by
  funext q
  show (if c = c then f q else V c q) = f q
  rw [if_pos rfl]
theorem pmPic_app {kd : Nat × Nat} {f : Nat → Value} : pmPic cI cZ cP a0 b (h.1 ++ [kd], pmRow h.2 h.1.length f) = pmPic cI cZ cP a0 b h ++ [(a0 + h.1.length, pmCell cI cZ cP a0 b kd f)] := by
  refine List.ext_getElem? fun i => ?_
  by_cases hi : i < h.1.length
  · rw [List.getElem?_append_left (by rw [pmPic_len]; exact hi)]
    have h1 : (h.1 ++ [kd])[i]? = h.1[i]? := List.getElem?_append_left hi
    obtain ⟨k0, hk⟩ : ∃ k0, h.1[i]? = some k0 := ⟨_, List.getElem?_eq_getElem hi⟩
    rw [pmPic_at (h := (h.1 ++ [kd], pmRow h.2 h.1.length f)) (h1.trans hk), pmPic_at hk]
    show some (a0 + i, pmCell cI cZ cP a0 b k0 (pmRow h.2 h.1.length f i)) = _
    rw [pmRow_ne (Nat.ne_of_lt hi)]
  · by_cases h2 : i = h.1.length
    · subst h2
      have h1 : (h.1 ++ [kd])[h.1.length]? = some kd := by simp
      rw [pmPic_at (h := (h.1 ++ [kd], pmRow h.2 h.1.length f)) h1, List.getElem?_append_right (by rw [pmPic_len]; exact Nat.le_refl _), pmPic_len, Nat.sub_self]
      show some (a0 + h.1.length, pmCell cI cZ cP a0 b kd (pmRow h.2 h.1.length f h.1.length)) = _
      rw [pmRow_eq]
      rfl
    · rw [List.getElem?_eq_none (by rw [pmPic_len]; simp; omega), List.getElem?_eq_none (by rw [List.length_append, pmPic_len]; simp; omega)]
theorem pm_fresh {D : va_G} {q : Nat} {E : va_E} {H1 : Heap} (hD : va_D (fun q => a0 ≤ q) (pmPic cI cZ cP a0 b h ++ [(q, E)])) (hP : va_P D clT (pmPic cI cZ cP a0 b h ++ [(q, E)]) H1) (hz : H1.size ≤ a0 + h.1.length + 1) : q = a0 + h.1.length := by
  have hat : (pmPic cI cZ cP a0 b h ++ [(q, E)])[h.1.length]? = some (q, E) := by
    rw [List.getElem?_append_right (by rw [pmPic_len]; exact Nat.le_refl _), pmPic_len, Nat.sub_self]
    rfl
  have h1 : a0 ≤ q := hD.2 _ _ hat
  have h2 : q < H1.size := (hP _ _ hat).lt
  refine Nat.le_antisymm (by omega) (Nat.le_of_not_lt fun hlt => ?_)
  have hi : q - a0 < h.1.length := by omega
  obtain ⟨k0, hk⟩ : ∃ k0, h.1[q - a0]? = some k0 := ⟨_, List.getElem?_eq_getElem hi⟩
  have h3 : (pmPic cI cZ cP a0 b h ++ [(q, E)])[q - a0]? = some (a0 + (q - a0), pmCell cI cZ cP a0 b k0 (h.2 (q - a0))) := by
    rw [List.getElem?_append_left (by rw [pmPic_len]; exact hi)]
    exact pmPic_at hk
  have h4 := hD.1 _ _ _ _ h3 hat (show a0 + (q - a0) = q by omega)
  omega
end PMP
theorem pmIn_in {i : Int32} {n : Nat} (h : pmIn i n = true) : vp_in i n := by
  unfold pmIn at h
  rw [Bool.and_eq_true] at h
  have h1 : ¬ i < 0 := by simpa using h.1
  have h2 := Nat.blt_eq.mp h.2
  exact fun z => z.elim h1 (fun y => by omega)
theorem pm_upd {V : pmV} {c k : Nat} {x : Int32} : upd (fun j => pmVI (V c j)) k x = fun j => pmVI (pmPut V c k (.int x) c j) := by
  funext j
  rw [pmPut_eq]
  unfold upd
  by_cases h : j = k
  · rw [if_pos h, if_pos h]
    rfl
  · rw [if_neg h, if_neg h]
theorem pm_updR {V : pmV} {c k a0 q : Nat} : va_up (fun j => (pmVR (V c j)).map (fun q => a0 + q)) k (some (a0 + q)) = fun j => (pmVR (pmPut V c k (.ref q) c j)).map (fun q => a0 + q) := by
  funext j
  rw [pmPut_eq]
  unfold va_up
  by_cases h : j = k
  · rw [if_pos h, if_pos h]
    rfl
  · rw [if_neg h, if_neg h]
theorem pm_updF {V : pmV} {c k n a0 b : Nat} {v : Value} : ((List.range n).map (fun i => pmCv a0 b (V c i))).set k (pmCv a0 b v) = (List.range n).map (fun i => pmCv a0 b (pmPut V c k v c i)) := by
  refine List.ext_getElem? fun i => ?_
  by_cases hi : i < n
  · rw [List.getElem?_map, pm_rngAt hi]
    by_cases hk : i = k
    · subst hk
      rw [List.getElem?_set_self (by simpa using hi)]
      show _ = some (pmCv a0 b (pmPut V c i v c i))
      rw [pmPut_eq, if_pos rfl]
    · rw [List.getElem?_set_ne (Ne.symm hk), List.getElem?_map, pm_rngAt hi]
      show some (pmCv a0 b (V c i)) = some (pmCv a0 b (pmPut V c k v c i))
      rw [pmPut_eq, if_neg hk]
  · rw [List.getElem?_eq_none (by simp; omega), List.getElem?_eq_none (by simp; omega)]
theorem pmGet_inv {o : Option (Nat × Nat)} {st st' : List Value} {h h' : pmH} (hh : pmGet o st h = some (st', h')) : h' = h ∧ ∃ ci k c r, o = some (ci, k) ∧ st = .ref c :: r ∧ h.1[c]? = some (ci + 4, nfT ci) ∧ st' = h.2 c k :: r := by
  unfold pmGet at hh
  split at hh
  · cases hh
  · split at hh
    · split at hh
      · rename_i hk
        split at hh
        · rename_i hc
          simp only [Bool.and_eq_true, beq_iff_eq] at hc
          cases hh
          rw [hc.1, hc.2] at hk
          exact ⟨rfl, _, _, _, _, rfl, rfl, hk, rfl⟩
        · cases hh
      · cases hh
    · cases hh
theorem pmSet_inv {j : Nat} {o : Option (Nat × Nat)} {st st' : List Value} {h h' : pmH} (hh : pmSet j o st h = some (st', h')) : ∃ ci k v c, o = some (ci, k) ∧ st = v :: .ref c :: st' ∧ h.1[c]? = some (ci + 4, nfT ci) ∧ pmFit (ftyT ci k) v = true ∧ (finT ci k = false ∨ (iniT j = true ∧ clsT j = ci)) ∧ h' = (h.1, pmPut h.2 c k v) := by
  unfold pmSet at hh
  split at hh
  · cases hh
  · split at hh
    · split at hh
      · rename_i hk
        split at hh
        · rename_i hc
          simp only [Bool.and_eq_true, Bool.or_eq_true, Bool.not_eq_true', beq_iff_eq] at hc
          cases hh
          rw [hc.1.1.1, hc.1.1.2] at hk
          exact ⟨_, _, _, _, rfl, rfl, hk, hc.1.2, hc.2, rfl⟩
        · cases hh
      · cases hh
    · cases hh
theorem pmArL_inv {S : pmS} {tag : Nat} {st st' : List Value} {h h' : pmH} (hh : pmArL S tag st h = some (st', h')) : h' = h ∧ ((∃ i c r n, st = .int i :: .ref c :: r ∧ h.1[c]? = some (tag, n) ∧ pmIn i n = true ∧ st' = .int (pmVI (h.2 c i.toNatClampNeg)) :: r) ∨ (∃ i z r, st = .int i :: .float z :: r ∧ tag = 1 ∧ pmIn i (S.1 - 1) = true ∧ st' = .int (S.2 i.toNatClampNeg) :: r)) := by
  unfold pmArL at hh
  split at hh
  · split at hh
    · rename_i hk
      split at hh
      · rename_i hc
        simp only [Bool.and_eq_true, beq_iff_eq] at hc
        cases hh
        rw [hc.1] at hk
        exact ⟨rfl, Or.inl ⟨_, _, _, _, rfl, hk, hc.2, rfl⟩⟩
      · cases hh
    · cases hh
  · split at hh
    · rename_i hc
      simp only [Bool.and_eq_true, beq_iff_eq] at hc
      cases hh
      exact ⟨rfl, Or.inr ⟨_, _, _, rfl, hc.1, hc.2, rfl⟩⟩
    · cases hh
  · cases hh
theorem pmArS_inv {tag : Nat} {st st' : List Value} {h h' : pmH} (hh : pmArS tag st h = some (st', h')) : ∃ x i c n, st = .int x :: .int i :: .ref c :: st' ∧ h.1[c]? = some (tag, n) ∧ pmIn i n = true ∧ (tag = 1 ∨ (x = 0 ∨ x = 1)) ∧ h' = (h.1, pmPut h.2 c i.toNatClampNeg (.int x)) := by
  unfold pmArS at hh
  split at hh
  · split at hh
    · rename_i hk
      split at hh
      · rename_i hc
        simp only [Bool.and_eq_true, Bool.or_eq_true, beq_iff_eq] at hc
        cases hh
        rw [hc.1.1] at hk
        exact ⟨_, _, _, _, rfl, hk, hc.1.2, hc.2, rfl⟩
      · cases hh
    · cases hh
  · cases hh
theorem pmRfL_inv {st st' : List Value} {h h' : pmH} (hh : pmRfL st h = some (st', h')) : h' = h ∧ ∃ i c r n q, st = .int i :: .ref c :: r ∧ h.1[c]? = some (3, n) ∧ pmIn i n = true ∧ h.2 c i.toNatClampNeg = .ref q ∧ st' = .ref q :: r := by
  unfold pmRfL at hh
  split at hh
  · split at hh
    · rename_i hk
      split at hh
      · rename_i hc
        simp only [Bool.and_eq_true, beq_iff_eq] at hc
        split at hh
        · rename_i hv
          cases hh
          rw [hc.1] at hk
          exact ⟨rfl, _, _, _, _, _, rfl, hk, hc.2, hv, rfl⟩
        · cases hh
      · cases hh
    · cases hh
  · cases hh
theorem pmRfS_inv {st st' : List Value} {h h' : pmH} (hh : pmRfS st h = some (st', h')) : ∃ q i c n, st = .ref q :: .int i :: .ref c :: st' ∧ h.1[c]? = some (3, n) ∧ h.1[q]? = some (rfcT + 4, nfT rfcT) ∧ pmIn i n = true ∧ h' = (h.1, pmPut h.2 c i.toNatClampNeg (.ref q)) := by
  unfold pmRfS at hh
  split at hh
  · split at hh
    · rename_i hk
      split at hh
      · rename_i hk2
        split at hh
        · rename_i hc
          simp only [Bool.and_eq_true, beq_iff_eq] at hc
          cases hh
          rw [hc.1.1.1] at hk
          rw [hc.1.2, hc.2] at hk2
          exact ⟨_, _, _, _, rfl, hk, hk2, hc.1.1.2, rfl⟩
        · cases hh
      · cases hh
    · cases hh
  · cases hh
theorem pmLen_inv {S : pmS} {st st' : List Value} {h h' : pmH} (hh : pmLen S st h = some (st', h')) : h' = h ∧ ((∃ c r t n, st = .ref c :: r ∧ h.1[c]? = some (t, n) ∧ (t = 1 ∨ t = 2 ∨ t = 3) ∧ st' = .int (Int32.ofNat n) :: r) ∨ (∃ z r, st = .float z :: r ∧ st' = .int (Int32.ofNat (S.1 - 1)) :: r)) := by
  unfold pmLen at hh
  split at hh
  · split at hh
    · rename_i hk
      split at hh
      · rename_i hc
        simp only [Bool.or_eq_true, beq_iff_eq] at hc
        cases hh
        exact ⟨rfl, Or.inl ⟨_, _, _, _, rfl, hk, by omega, rfl⟩⟩
      · cases hh
    · cases hh
  · split at hh
    · cases hh
    · cases hh
      exact ⟨rfl, Or.inr ⟨_, _, rfl, rfl⟩⟩
  · cases hh
theorem pmNew_inv {o : Option Nat} {st st' : List Value} {h h' : pmH} (hh : pmNew o st h = some (st', h')) : ∃ ci, o = some ci ∧ st' = .ref h.1.length :: st ∧ h' = (h.1 ++ [(ci + 4, nfT ci)], pmRow h.2 h.1.length (pmDf ci)) := by
  unfold pmNew at hh
  split at hh
  · cases hh
  · cases hh
    exact ⟨_, rfl, rfl, rfl⟩
theorem pmNwA_inv {tag : Nat} {v : Value} {st st' : List Value} {h h' : pmH} (hh : pmNwA tag v st h = some (st', h')) : ∃ n r, st = .int n :: r ∧ ¬ n < 0 ∧ n.toNatClampNeg ≤ 100000 ∧ st' = .ref h.1.length :: r ∧ h' = (h.1 ++ [(tag, n.toNatClampNeg)], pmRow h.2 h.1.length (fun _ => v)) := by
  unfold pmNwA at hh
  split at hh
  · split at hh
    · cases hh
    · rename_i h1
      split at hh
      · rename_i h2
        cases hh
        exact ⟨_, _, rfl, h1, h2, rfl, rfl⟩
      · cases hh
  · cases hh
theorem pmObj_inv {o : Bool} {st st' : List Value} {h h' : pmH} (hh : pmObj o st h = some (st', h')) : h' = h ∧ o = true ∧ (st'.map fun v => v.category).sum ≤ 8 ∧ ∃ c, st = .ref c :: st' := by
  unfold pmObj at hh
  split at hh
  · split at hh
    · rename_i h1
      split at hh
      · rename_i h2
        cases hh
        exact ⟨rfl, h1, h2, _, rfl⟩
      · cases hh
    · cases hh
  · cases hh
