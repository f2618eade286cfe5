theorem i_row : (List.range 4).all (fun s => (List.range 4).all fun g => decide (ini1 1 (4 * s + g) = 0) && decide (ini0 (rowC s) g = 0)) = true := by decide +kernel
theorem i_up : (List.range 4).all (fun g => decide (ini0 5 g = upA (ini0 4) (ini0 3 g)) && decide (ini0 9 g = upA (ini0 8) (ini0 7 g))) = true := by decide +kernel
theorem i_mk : (List.range 16).all (fun k => decide (ini1 2 k = -1) && decide (ini0 10 k = -1)) = true := by decide +kernel
theorem i_th : (List.range 4).all (fun g => decide (ini1 3 g = 0) && decide (ini0 11 g = 0) && decide (ini1 4 g = 0) && decide (ini0 12 g = 0)) = true := by decide +kernel
theorem i_rm : (List.range 9).all (fun i => decide (ini0 18 i = nI (19 + 5 * i)) && decide (ini0 65 i = nI (66 + 5 * i))) = true := by decide +kernel
theorem i_sc : (decide (ini0 15 1 = 0) && decide (ini1 0 4 = 0) && decide (ini0 1 5 = 0) && decide (ini0 17 1 = 0) && decide (ini0 64 1 = 0) && decide (ini1 6 0 = 0) && decide (ini1 6 1 = 0)) = true := by decide +kernel
theorem R0 : Rel ini0 ini1 0 := by
  have sc := i_sc
  simp only [Bool.and_eq_true, decide_eq_true_eq] at sc
  obtain ⟨⟨⟨⟨⟨⟨c1, c2⟩, c3⟩, c4⟩, c5⟩, c6⟩, c7⟩ := sc
  refine ⟨⟨fun s hs g hg => ?_, fun g hg => ?_, fun g hg => ?_, fun k hk => ?_, fun g hg => ?_⟩, ⟨0, by omega, c1, c2, fun k hk => absurd hk (Nat.not_lt_zero k)⟩, 0, Nat.le_refl _, c3, fun s hs => ?_⟩
  · have := all2 i_row hs hg
    simp only [Bool.and_eq_true, decide_eq_true_eq] at this
    rw [this.1, this.2]
    exact ⟨rfl, 0, by omega, rfl⟩
  · have := List.all_eq_true.mp i_up g (List.mem_range.mpr hg)
    simp only [Bool.and_eq_true, decide_eq_true_eq] at this
    exact this.1
  · have := List.all_eq_true.mp i_up g (List.mem_range.mpr hg)
    simp only [Bool.and_eq_true, decide_eq_true_eq] at this
    exact this.2
  · have := List.all_eq_true.mp i_mk k (List.mem_range.mpr hk)
    simp only [Bool.and_eq_true, decide_eq_true_eq] at this
    rw [this.1, this.2]
    decide
  · have := List.all_eq_true.mp i_th g (List.mem_range.mpr hg)
    simp only [Bool.and_eq_true, decide_eq_true_eq] at this
    rw [this.1.1.1, this.1.1.2, this.1.2, this.2]
    decide
  · have rm : ∀ i, i < 9 → ix (ini0 (setC s + 1) i) = (if s = 0 then 19 else 66) + 5 * i := fun i hi => by
      have := List.all_eq_true.mp i_rm i (List.mem_range.mpr hi)
      simp only [Bool.and_eq_true, decide_eq_true_eq] at this
      rcases (show s = 0 ∨ s = 1 by omega) with rfl | rfl
      · show ix (ini0 18 i) = 19 + 5 * i
        rw [this.1, ix_nI (by omega)]
      · show ix (ini0 65 i) = 66 + 5 * i
        rw [this.2, ix_nI (by omega)]
    refine ⟨⟨fun i hi => ?_, fun i j hi hj e => ?_⟩, 0, by omega, ?_, ?_, fun i hi => absurd hi (Nat.not_lt_zero i)⟩
    · rw [rm i hi]
      unfold polIn
      rcases (show s = 0 ∨ s = 1 by omega) with rfl | rfl
      · refine ⟨?_, Or.inl ⟨rfl, by rw [if_pos rfl]; omega, by rw [if_pos rfl]; omega⟩⟩
        rw [if_pos rfl]
        show isPoB (19 + 5 * i) = true
        unfold isPoB
        simp only [Bool.or_eq_true, Bool.and_eq_true, Nat.ble_eq, Nat.blt_eq, beq_iff_eq]
        omega
      · refine ⟨?_, Or.inr ⟨rfl, by rw [if_neg (by decide)]; omega, by rw [if_neg (by decide)]; omega⟩⟩
        rw [if_neg (by decide)]
        show isPoB (66 + 5 * i) = true
        unfold isPoB
        simp only [Bool.or_eq_true, Bool.and_eq_true, Nat.ble_eq, Nat.blt_eq, beq_iff_eq]
        omega
    · rw [rm i hi, rm j hj] at e
      omega
    · rcases (show s = 0 ∨ s = 1 by omega) with rfl | rfl
      · exact c4
      · exact c5
    · rcases (show s = 0 ∨ s = 1 by omega) with rfl | rfl
      · exact c6
      · exact c7
