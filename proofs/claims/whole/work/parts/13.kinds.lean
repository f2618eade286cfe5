def kdL_0 : List (Nat × Nat) := [(10, 6), (9, 6), (5, 3), (1, 4), (1, 4), (1, 4), (5, 3), (1, 4), (1, 4), (1, 4), (1, 16), (1, 4), (1, 4), (4, 4), (1, 12), (8, 7)]
def kdL_1 : List (Nat × Nat) := [(1, 160), (7, 2), (3, 9), (6, 13), (1, 160), (1, 160), (1, 64), (1, 64), (6, 13), (1, 160), (1, 160), (1, 64), (1, 64), (6, 13), (1, 160), (1, 160)]
def kdL_2 : List (Nat × Nat) := [(1, 64), (1, 64), (6, 13), (1, 160), (1, 160), (1, 64), (1, 64), (6, 13), (1, 160), (1, 160), (1, 64), (1, 64), (6, 13), (1, 160), (1, 160), (1, 64)]
def kdL_3 : List (Nat × Nat) := [(1, 64), (6, 13), (1, 160), (1, 160), (1, 64), (1, 64), (6, 13), (1, 160), (1, 160), (1, 64), (1, 64), (6, 13), (1, 160), (1, 160), (1, 64), (1, 64)]
def kdL_4 : List (Nat × Nat) := [(7, 2), (3, 9), (6, 13), (1, 160), (1, 160), (1, 64), (1, 64), (6, 13), (1, 160), (1, 160), (1, 64), (1, 64), (6, 13), (1, 160), (1, 160), (1, 64)]
def kdL_5 : List (Nat × Nat) := [(1, 64), (6, 13), (1, 160), (1, 160), (1, 64), (1, 64), (6, 13), (1, 160), (1, 160), (1, 64), (1, 64), (6, 13), (1, 160), (1, 160), (1, 64), (1, 64)]
def kdL_6 : List (Nat × Nat) := [(6, 13), (1, 160), (1, 160), (1, 64), (1, 64), (6, 13), (1, 160), (1, 160), (1, 64), (1, 64), (6, 13), (1, 160), (1, 160), (1, 64), (1, 64), (1, 64)]
def kdL_7 : List (Nat × Nat) := [(11, 47), (1, 16), (1, 16), (1, 4), (1, 4), (1, 160), (1, 2), (2, 17), (1, 51), (1, 17), (2, 17), (1, 17), (1, 2720), (1, 2720), (1, 8), (1, 8)]
def kdL_8 : List (Nat × Nat) := [(1, 8), (1, 8), (1, 8), (1, 8), (1, 8), (1, 8), (1, 8), (1, 8), (1, 8), (1, 8), (1, 8), (1, 8), (1, 8), (1, 8), (2, 8), (1, 8)]
def kdL_9 : List (Nat × Nat) := [(1, 8), (1, 8), (1, 8), (2, 8), (1, 8), (1, 8), (1, 8), (1, 8), (1, 8), (1, 40)]
def kdT0 : pmK := kdL_0 ++ (kdL_1 ++ (kdL_2 ++ (kdL_3 ++ (kdL_4 ++ (kdL_5 ++ (kdL_6 ++ (kdL_7 ++ (kdL_8 ++ (kdL_9)))))))))
def fxL_0 : List (List Nat) := [[3, 15, 17, 19, 66, 113], [4, 8, 12, 13, 14, 0], [5, 6, 7], [], [], [], [9, 10, 11], [], [], [], [], [], [], [3, 16, 0, 0], [], [18, 0, 1, 0, 0, 0, 0]]
def fxL_1 : List (List Nat) := [[], [20, 0], [], [0, 0, 0, 0, 0, 0, 0, 22, 23, 0, 24, 25, 0], [], [], [], [], [0, 0, 0, 0, 0, 0, 0, 27, 28, 0, 29, 30, 0], [], [], [], [], [0, 0, 0, 0, 0, 0, 0, 32, 33, 0, 34, 35, 0], [], []]
def fxL_2 : List (List Nat) := [[], [], [0, 0, 0, 0, 0, 0, 0, 37, 38, 0, 39, 40, 0], [], [], [], [], [0, 0, 0, 0, 0, 0, 0, 42, 43, 0, 44, 45, 0], [], [], [], [], [0, 0, 0, 0, 0, 0, 0, 47, 48, 0, 49, 50, 0], [], [], []]
def fxL_3 : List (List Nat) := [[], [0, 0, 0, 0, 0, 0, 0, 52, 53, 0, 54, 55, 0], [], [], [], [], [0, 0, 0, 0, 0, 0, 0, 57, 58, 0, 59, 60, 0], [], [], [], [], [0, 0, 0, 0, 0, 0, 0, 62, 63, 0, 64, 65, 0], [], [], [], []]
def fxL_4 : List (List Nat) := [[67, 0], [], [0, 0, 0, 0, 0, 0, 0, 69, 70, 0, 71, 72, 0], [], [], [], [], [0, 0, 0, 0, 0, 0, 0, 74, 75, 0, 76, 77, 0], [], [], [], [], [0, 0, 0, 0, 0, 0, 0, 79, 80, 0, 81, 82, 0], [], [], []]
def fxL_5 : List (List Nat) := [[], [0, 0, 0, 0, 0, 0, 0, 84, 85, 0, 86, 87, 0], [], [], [], [], [0, 0, 0, 0, 0, 0, 0, 89, 90, 0, 91, 92, 0], [], [], [], [], [0, 0, 0, 0, 0, 0, 0, 94, 95, 0, 96, 97, 0], [], [], [], []]
def fxL_6 : List (List Nat) := [[0, 0, 0, 0, 0, 0, 0, 99, 100, 0, 101, 102, 0], [], [], [], [], [0, 0, 0, 0, 0, 0, 0, 104, 105, 0, 106, 107, 0], [], [], [], [], [0, 0, 0, 0, 0, 0, 0, 109, 110, 0, 111, 112, 0], [], [], [], [], []]
def fxL_7 : List (List Nat) := [[115, 116, 117, 118, 0, 119, 120, 121, 122, 123, 124, 125, 126, 127, 0, 0, 0, 0, 128, 129, 130, 131, 132, 133, 134, 135, 136, 137, 138, 139, 140, 141, 142, 143, 144, 145, 146, 147, 148, 149, 150, 151, 152, 153, 154, 155, 0], [], [], [], [], [], [], [], [], [], [], [], [], [], [], []]
def fxL_8 : List (List Nat) := [[], [], [], [], [], [], [], [], [], [], [], [], [], [], [], []]
def fxL_9 : List (List Nat) := [[], [], [], [], [], [], [], [], [], []]
def fxLL : List (List (List Nat)) := [fxL_0, fxL_1, fxL_2, fxL_3, fxL_4, fxL_5, fxL_6, fxL_7, fxL_8, fxL_9]
def fxT (c k : Nat) : Nat := match kdT0[c]? with
  | none => 0
  | some (t, _) => if (t == 1 || t == 2) = true then 0 else if (t == 3) = true then 1 else ((fxLL.getD (c / 16) []).getD (c % 16) []).getD k 0
def isA (n c : Nat) : Prop := kdT0[c]? = some (1, n) ∧ c < 112
def isP (c : Nat) : Prop := kdT0[c]? = some (3, 9) ∧ c < 112
theorem fx_A {n c k : Nat} (h : isA n c) : fxT c k = 0 := by
  unfold fxT
  rw [h.1]
  rfl
theorem fx_P {c k : Nat} (h : isP c) : fxT c k = 1 := by
  unfold fxT
  rw [h.1]
  rfl
theorem Po_lt {c : Nat} (h : isPo c) : c < 112 := by
  unfold isPo isPoB at h
  simp only [Bool.or_eq_true, Bool.and_eq_true, Nat.ble_eq, Nat.blt_eq] at h
  omega
theorem Po_31 {c : Nat} (h : isPo c) : c < 2 ^ 31 := Nat.lt_trans (Po_lt h) (by decide)
theorem Ne_lt {c : Nat} (h : isNe c) : c < 112 := by rcases h with rfl | rfl <;> decide
theorem Se_lt {c : Nat} (h : isSe c) : c < 112 := by rcases h with rfl | rfl <;> decide
theorem Ne_k {c : Nat} (h : isNe c) : kdT0[c]? = some (1 + 4, 3) := by rcases h with rfl | rfl <;> rfl
theorem Ne_f0 {c : Nat} (h : isNe c) : fxT c 0 = (c + 1) + 2 := by rcases h with rfl | rfl <;> rfl
theorem Ne_f1 {c : Nat} (h : isNe c) : fxT c 1 = (c + 2) + 2 := by rcases h with rfl | rfl <;> rfl
theorem Ne_f2 {c : Nat} (h : isNe c) : fxT c 2 = (c + 3) + 2 := by rcases h with rfl | rfl <;> rfl
theorem Ne_a1 {c : Nat} (h : isNe c) : isA 4 (c + 1) := by rcases h with rfl | rfl <;> exact ⟨rfl, by decide⟩
theorem Ne_a2 {c : Nat} (h : isNe c) : isA 4 (c + 2) := by rcases h with rfl | rfl <;> exact ⟨rfl, by decide⟩
theorem Ne_a3 {c : Nat} (h : isNe c) : isA 4 (c + 3) := by rcases h with rfl | rfl <;> exact ⟨rfl, by decide⟩
theorem Se_k {c : Nat} (h : isSe c) : kdT0[c]? = some (3 + 4, 2) := by rcases h with rfl | rfl <;> rfl
theorem Se_f0 {c : Nat} (h : isSe c) : fxT c 0 = (c + 1) + 2 := by rcases h with rfl | rfl <;> rfl
theorem Se_f1 {c : Nat} (h : isSe c) : fxT c 1 = 0 := by rcases h with rfl | rfl <;> rfl
theorem Se_a1 {c : Nat} (h : isSe c) : isP (c + 1) := by rcases h with rfl | rfl <;> exact ⟨rfl, by decide⟩
theorem Poz_k : ∀ c, c < 112 → isPoB c = true → (kdT0[c]? = some (2 + 4, 13)) := by decide +kernel
theorem Po_k {c : Nat} (h : isPo c) : kdT0[c]? = some (2 + 4, 13) := Poz_k c (Po_lt h) h
theorem Poz_f0 : ∀ c, c < 112 → isPoB c = true → (fxT c 0 = 0) := by decide +kernel
theorem Po_f0 {c : Nat} (h : isPo c) : fxT c 0 = 0 := Poz_f0 c (Po_lt h) h
theorem Poz_f1 : ∀ c, c < 112 → isPoB c = true → (fxT c 1 = 0) := by decide +kernel
theorem Po_f1 {c : Nat} (h : isPo c) : fxT c 1 = 0 := Poz_f1 c (Po_lt h) h
theorem Poz_f2 : ∀ c, c < 112 → isPoB c = true → (fxT c 2 = 0) := by decide +kernel
theorem Po_f2 {c : Nat} (h : isPo c) : fxT c 2 = 0 := Poz_f2 c (Po_lt h) h
theorem Poz_f3 : ∀ c, c < 112 → isPoB c = true → (fxT c 3 = 0) := by decide +kernel
theorem Po_f3 {c : Nat} (h : isPo c) : fxT c 3 = 0 := Poz_f3 c (Po_lt h) h
theorem Poz_f4 : ∀ c, c < 112 → isPoB c = true → (fxT c 4 = 0) := by decide +kernel
theorem Po_f4 {c : Nat} (h : isPo c) : fxT c 4 = 0 := Poz_f4 c (Po_lt h) h
theorem Poz_f5 : ∀ c, c < 112 → isPoB c = true → (fxT c 5 = 0) := by decide +kernel
theorem Po_f5 {c : Nat} (h : isPo c) : fxT c 5 = 0 := Poz_f5 c (Po_lt h) h
theorem Poz_f6 : ∀ c, c < 112 → isPoB c = true → (fxT c 6 = 0) := by decide +kernel
theorem Po_f6 {c : Nat} (h : isPo c) : fxT c 6 = 0 := Poz_f6 c (Po_lt h) h
theorem Poz_f7 : ∀ c, c < 112 → isPoB c = true → (fxT c 7 = (c + 1) + 2) := by decide +kernel
theorem Po_f7 {c : Nat} (h : isPo c) : fxT c 7 = (c + 1) + 2 := Poz_f7 c (Po_lt h) h
theorem Poz_f8 : ∀ c, c < 112 → isPoB c = true → (fxT c 8 = (c + 2) + 2) := by decide +kernel
theorem Po_f8 {c : Nat} (h : isPo c) : fxT c 8 = (c + 2) + 2 := Poz_f8 c (Po_lt h) h
theorem Poz_f9 : ∀ c, c < 112 → isPoB c = true → (fxT c 9 = 0) := by decide +kernel
theorem Po_f9 {c : Nat} (h : isPo c) : fxT c 9 = 0 := Poz_f9 c (Po_lt h) h
theorem Poz_f10 : ∀ c, c < 112 → isPoB c = true → (fxT c 10 = (c + 3) + 2) := by decide +kernel
theorem Po_f10 {c : Nat} (h : isPo c) : fxT c 10 = (c + 3) + 2 := Poz_f10 c (Po_lt h) h
theorem Poz_f11 : ∀ c, c < 112 → isPoB c = true → (fxT c 11 = (c + 4) + 2) := by decide +kernel
theorem Po_f11 {c : Nat} (h : isPo c) : fxT c 11 = (c + 4) + 2 := Poz_f11 c (Po_lt h) h
theorem Poz_f12 : ∀ c, c < 112 → isPoB c = true → (fxT c 12 = 0) := by decide +kernel
theorem Po_f12 {c : Nat} (h : isPo c) : fxT c 12 = 0 := Poz_f12 c (Po_lt h) h
theorem Poz_a1 : ∀ c, c < 112 → isPoB c = true → (kdT0[c + 1]? = some (1, 160) ∧ c + 1 < 112) := by decide +kernel
theorem Po_a1 {c : Nat} (h : isPo c) : isA 160 (c + 1) := Poz_a1 c (Po_lt h) h
theorem Poz_a2 : ∀ c, c < 112 → isPoB c = true → (kdT0[c + 2]? = some (1, 160) ∧ c + 2 < 112) := by decide +kernel
theorem Po_a2 {c : Nat} (h : isPo c) : isA 160 (c + 2) := Poz_a2 c (Po_lt h) h
theorem Poz_a3 : ∀ c, c < 112 → isPoB c = true → (kdT0[c + 3]? = some (1, 64) ∧ c + 3 < 112) := by decide +kernel
theorem Po_a3 {c : Nat} (h : isPo c) : isA 64 (c + 3) := Poz_a3 c (Po_lt h) h
theorem Poz_a4 : ∀ c, c < 112 → isPoB c = true → (kdT0[c + 4]? = some (1, 64) ∧ c + 4 < 112) := by decide +kernel
theorem Po_a4 {c : Nat} (h : isPo c) : isA 64 (c + 4) := Poz_a4 c (Po_lt h) h
