def pcL_0 : List (Nat) := [0, 70, 78, 84, 121, 140, 168, 175, 265, 268, 271, 275]
def pcL_1 : List (Nat) := [279, 282, 286, 290, 293, 297, 301, 305, 309, 313, 316, 320]
def pcL_2 : List (Nat) := [324, 328, 332, 336, 340, 345, 349, 353, 357, 361, 365, 369]
def pcL_3 : List (Nat) := [372, 376, 380, 384, 388, 392, 396, 400, 404, 408, 413, 417]
def pcL_4 : List (Nat) := [421, 425, 429, 433, 437, 440, 443, 446, 450, 453, 458, 462]
def pcL_5 : List (Nat) := [466, 470, 474, 478, 482, 486, 490, 494, 498, 502, 506, 510]
def pcL_6 : List (Nat) := [514, 518, 522, 526, 530, 536, 540, 544, 548, 552, 556, 560]
def pcL_7 : List (Nat) := [563, 566, 569, 572, 579, 583, 587, 592, 596, 600, 604, 609]
def pcL_8 : List (Nat) := [612, 615, 619, 622, 626, 631, 778, 781, 785, 789, 793, 797]
def pcL_9 : List (Nat) := [801, 805, 810, 814, 818, 822, 826, 830, 834, 838, 842, 846]
def pcL_10 : List (Nat) := [850, 854, 858, 862, 866, 870, 873, 877, 881, 885, 889, 893]
def pcL_11 : List (Nat) := [897, 901, 905, 909, 913, 916, 920, 923, 926, 929, 933, 937]
def pcL_12 : List (Nat) := [941, 945, 949, 953]
def pcL : List (List (Nat)) := [pcL_0, pcL_1, pcL_2, pcL_3, pcL_4, pcL_5, pcL_6, pcL_7, pcL_8, pcL_9, pcL_10, pcL_11, pcL_12]
def pcT (j : Nat) : Nat := (pcL.getD (j / 12) []).getD (j % 12) 0
def pkL_0 : List (Nat) := [0, 69, 77, 83, 120, 139, 167, 174, 263, 267, 270, 273]
def pkL_1 : List (Nat) := [278, 281, 284, 289, 292, 296, 299, 303, 307, 311, 315, 318]
def pkL_2 : List (Nat) := [322, 326, 330, 334, 338, 343, 347, 351, 355, 359, 363, 367]
def pkL_3 : List (Nat) := [371, 375, 378, 382, 386, 391, 395, 399, 403, 407, 412, 416]
def pkL_4 : List (Nat) := [420, 424, 428, 432, 436, 439, 442, 445, 448, 452, 457, 461]
def pkL_5 : List (Nat) := [465, 469, 473, 477, 480, 485, 488, 492, 496, 501, 504, 508]
def pkL_6 : List (Nat) := [512, 516, 520, 525, 529, 535, 539, 543, 547, 551, 555, 558]
def pkL_7 : List (Nat) := [562, 565, 568, 571, 577, 581, 585, 591, 594, 598, 602, 607]
def pkL_8 : List (Nat) := [611, 614, 617, 621, 624, 630, 776, 780, 784, 787, 791, 795]
def pkL_9 : List (Nat) := [799, 803, 808, 812, 817, 821, 825, 829, 833, 837, 841, 845]
def pkL_10 : List (Nat) := [849, 853, 857, 861, 865, 869, 872, 876, 880, 884, 888, 891]
def pkL_11 : List (Nat) := [896, 900, 903, 907, 912, 915, 919, 922, 925, 928, 932, 935]
def pkL_12 : List (Nat) := [940, 943, 947, 951]
def pkL : List (List (Nat)) := [pkL_0, pkL_1, pkL_2, pkL_3, pkL_4, pkL_5, pkL_6, pkL_7, pkL_8, pkL_9, pkL_10, pkL_11, pkL_12]
def pkT (j : Nat) : Nat := (pkL.getD (j / 12) []).getD (j % 12) 0
def psL_0 : List (Nat) := [0, 0, 0, 0, 0, 0, 0, 0, 264, 0, 0, 274]
def psL_1 : List (Nat) := [0, 0, 285, 1, 0, 2, 300, 304, 308, 312, 0, 319]
def psL_2 : List (Nat) := [323, 327, 331, 335, 339, 344, 348, 352, 356, 360, 364, 368]
def psL_3 : List (Nat) := [0, 3, 379, 383, 387, 4, 5, 6, 7, 8, 9, 10]
def psL_4 : List (Nat) := [11, 12, 13, 14, 15, 0, 0, 0, 449, 0, 16, 17]
def psL_5 : List (Nat) := [18, 19, 20, 21, 481, 22, 489, 493, 497, 23, 505, 509]
def psL_6 : List (Nat) := [513, 517, 521, 24, 0, 25, 26, 27, 28, 29, 30, 559]
def psL_7 : List (Nat) := [0, 0, 0, 0, 578, 582, 586, 0, 595, 599, 603, 608]
def psL_8 : List (Nat) := [0, 0, 618, 0, 625, 0, 777, 0, 31, 788, 792, 796]
def psL_9 : List (Nat) := [800, 804, 809, 813, 32, 33, 34, 35, 36, 37, 38, 39]
def psL_10 : List (Nat) := [40, 41, 42, 43, 44, 45, 0, 46, 47, 48, 49, 892]
def psL_11 : List (Nat) := [50, 51, 904, 908, 52, 0, 53, 0, 0, 0, 54, 936]
def psL_12 : List (Nat) := [55, 944, 948, 952]
def psL : List (List (Nat)) := [psL_0, psL_1, psL_2, psL_3, psL_4, psL_5, psL_6, psL_7, psL_8, psL_9, psL_10, psL_11, psL_12]
def psT (j : Nat) : Nat := (psL.getD (j / 12) []).getD (j % 12) 0
def piL : List Nat := [60, 59, 63, 62, 61, 58, 57, 64, 56, 65]
def piT (c : Nat) : Nat := piL.getD c 0
def pnL : List Nat := [118, 81, 172, 165, 137, 75, 67, 628]
def pnT (c : Nat) : Nat := pnL.getD c 0
def tbT : List Cond := lw_tbl.filter goodWord
def pmNs (w : Cond) : Bool := match w with
  | .fieldLinkNest .. => true
  | .methodLinkNest .. => true
  | _ => false
def nsT : List Cond := lw_tbl.filter pmNs
theorem tbT_good : ∀ w ∈ tbT, (w.onTables && w.keeps) = true ∨ ∃ ty, w = .arrayClass ty := fun _ h => good_of_word (List.mem_filter.mp h).2
theorem nsT_kind : ∀ w ∈ nsT, (∃ a i b n d q, w = .fieldLinkNest a i b n d q) ∨ ∃ a i x q, w = .methodLinkNest a i x q := by
  intro w h
  have h2 := (List.mem_filter.mp h).2
  unfold pmNs at h2
  split at h2
  · exact Or.inl ⟨_, _, _, _, _, _, rfl⟩
  · exact Or.inr ⟨_, _, _, _, rfl⟩
  · cases h2
def wAt (p : Nat) (w : Cond) : Bool := decide (lw_tbl[p]? = some w) && goodWord w
theorem wAt_in {p : Nat} {w : Cond} (h : wAt p w = true) : w ∈ tbT := by
  unfold wAt at h
  rw [Bool.and_eq_true] at h
  exact List.mem_filter.mpr ⟨List.mem_of_getElem? (of_decide_eq_true h.1), h.2⟩
def nAt (p : Nat) (w : Cond) : Bool := decide (lw_tbl[p]? = some w) && pmNs w
theorem nAt_in {p : Nat} {w : Cond} (h : nAt p w = true) : w ∈ nsT := by
  unfold nAt at h
  rw [Bool.and_eq_true] at h
  exact List.mem_filter.mpr ⟨List.mem_of_getElem? (of_decide_eq_true h.1), h.2⟩
theorem pm_inD {α : Type} {L : List (List α)} {c : Nat} {q : α} (h : q ∈ L.getD c []) : c < L.length := by
  refine Nat.lt_of_not_le fun hc => ?_
  rw [List.getD_eq_getElem?_getD, List.getElem?_eq_none hc] at h
  exact absurd h List.not_mem_nil
theorem pm_all {α : Type} {L : List (List α)} {f : Nat → α → Bool} {N c : Nat} {q : α} (hN : L.length ≤ N) (h : (List.range N).all (fun c => (L.getD c []).all (f c)) = true) (hq : q ∈ L.getD c []) : f c q = true := by
  have h1 := List.all_eq_true.mp h c (List.mem_range.mpr (Nat.lt_of_lt_of_le (pm_inD hq) hN))
  exact List.all_eq_true.mp h1 q hq
def ckF (c : Nat) (q : Nat × Nat × Nat × Nat × Nat) : Bool := Nat.blt q.2.1 8 && Nat.blt q.2.2.1 (nfT q.2.1) && (if q.2.2.2.2 = 1 then nAt q.2.2.2.1 (.fieldLinkNest (cnT c) q.1 (cT q.2.1 q.2.2.1).1 (cT q.2.1 q.2.2.1).2.1 (cT q.2.1 q.2.2.1).2.2.1 "PermitSets") && !(q.2.1 == c) else wAt q.2.2.2.1 (.fieldLink (cnT c) q.1 (cT q.2.1 q.2.2.1).1 (cT q.2.1 q.2.2.1).2.1 (cT q.2.1 q.2.2.1).2.2.1)) && decide ((cT q.2.1 q.2.2.1).1 = cnT q.2.1)
theorem ckF_all : (List.range 10).all (fun c => (flL.getD c []).all (ckF c)) = true := by decide +kernel
theorem fldT_q {j i ci k : Nat} (h : fldT j i = some (ci, k)) : ∃ q, q ∈ flL.getD (clsT j) [] ∧ q.1 = i ∧ q.2.1 = ci ∧ q.2.2.1 = k := by
  unfold fldT at h
  split at h
  · rename_i q hq
    cases h
    exact ⟨q, List.mem_of_find?_eq_some hq, by simpa using List.find?_some hq, rfl, rfl⟩
  · cases h
theorem fldT_ok {j i ci k : Nat} (h : fldT j i = some (ci, k)) : ci < nclT ∧ k < nfT ci ∧ (Cond.fieldLink (ownT j) i (cT ci k).1 (cT ci k).2.1 (cT ci k).2.2.1 ∈ tbT ∨ ∃ host, Cond.fieldLinkNest (ownT j) i (cT ci k).1 (cT ci k).2.1 (cT ci k).2.2.1 host ∈ nsT) := by
  obtain ⟨q, hm, rfl, rfl, rfl⟩ := fldT_q h
  have hc := pm_all (by decide) ckF_all hm
  unfold ckF at hc
  simp only [Bool.and_eq_true] at hc
  refine ⟨Nat.blt_eq.mp hc.1.1.1, Nat.blt_eq.mp hc.1.1.2, ?_⟩
  have h3 := hc.1.2
  split at h3
  · rw [Bool.and_eq_true] at h3
    exact Or.inr ⟨_, nAt_in h3.1⟩
  · exact Or.inl (wAt_in h3)
theorem finT_ok {j i k : Nat} (h : fldT j i = some (clsT j, k)) (_ : iniT j = true) (_ : finT (clsT j) k = true) : Cond.fieldLink (ownT j) i (cT (clsT j) k).1 (cT (clsT j) k).2.1 (cT (clsT j) k).2.2.1 ∈ tbT ∧ (cT (clsT j) k).1 = ownT j := by
  obtain ⟨q, hm, h1, h2, h3⟩ := fldT_q h
  have hc := pm_all (by decide) ckF_all hm
  unfold ckF at hc
  rw [h1, h2, h3] at hc
  simp only [Bool.and_eq_true] at hc
  have h4 := hc.1.2
  split at h4
  · rw [Bool.and_eq_true] at h4
    have h5 := h4.2
    simp at h5
  · exact ⟨wAt_in h4, of_decide_eq_true hc.2⟩
def pmTyOk (t : Nat) (ty : FieldType) : Bool := match ty with
  | .int => t == 0
  | .boolean => t == 1
  | .object _ => t == 2
  | .array _ => t == 2
  | _ => false
def ckL (ci k : Nat) : Bool := wAt (lpT ci k) (u_lay (cnT ci) (cT ci) k) && decide (parseFieldDescriptor (cT ci k).2.2.1 = some (tyT ci k)) && pmTyOk (ftyT ci k) (tyT ci k) && decide ((cT ci k).2.2.2 = finT ci k) && (List.range (nfT ci)).all (fun b => decide (k = b) || !(decide ((cT ci k).2.1 = (cT ci b).2.1)))
theorem ckL_all : (List.range 8).all (fun ci => (List.range (nfT ci)).all (ckL ci)) = true := by decide +kernel
theorem ckL_at {ci k : Nat} (h : ci < nclT) (hk : k < nfT ci) : ckL ci k = true := List.all_eq_true.mp (List.all_eq_true.mp ckL_all ci (List.mem_range.mpr h)) k (List.mem_range.mpr hk)
theorem ckL_5 {ci k : Nat} (h : ci < nclT) (hk : k < nfT ci) : u_lay (cnT ci) (cT ci) k ∈ tbT ∧ parseFieldDescriptor (cT ci k).2.2.1 = some (tyT ci k) ∧ pmTyOk (ftyT ci k) (tyT ci k) = true ∧ (cT ci k).2.2.2 = finT ci k ∧ ∀ b, b < nfT ci → k ≠ b → (cT ci k).2.1 ≠ (cT ci b).2.1 := by
  have q := ckL_at h hk
  unfold ckL at q
  simp only [Bool.and_eq_true] at q
  obtain ⟨⟨⟨⟨q1, q2⟩, q3⟩, q4⟩, q5⟩ := q
  refine ⟨wAt_in q1, of_decide_eq_true q2, q3, of_decide_eq_true q4, fun b hb hne e => ?_⟩
  have := List.all_eq_true.mp q5 b (List.mem_range.mpr hb)
  simp [hne, e] at this
theorem clT_at {ci : Nat} (h : ci < nclT) : clT[ci]? = some (cnT ci, cT ci, nfT ci) := by
  unfold clT
  rw [List.getElem?_map, List.getElem?_eq_getElem (by rw [List.length_range]; exact h), List.getElem_range]
  rfl
theorem clT_ws {ci : Nat} (h : ci < nclT) : ∀ w ∈ u_ws (cnT ci) (cT ci) (nfT ci), w ∈ tbT := by
  intro w hw
  obtain ⟨k, hk, rfl⟩ := List.mem_map.mp hw
  exact (ckL_5 h (List.mem_range.mp hk)).1
theorem clT_ty {ci k : Nat} (h : ci < nclT) (hk : k < nfT ci) : parseFieldDescriptor (cT ci k).2.2.1 = some (tyT ci k) := (ckL_5 h hk).2.1
theorem clT_tg {ci k : Nat} (h : ci < nclT) (hk : k < nfT ci) : pmTyOk (ftyT ci k) (tyT ci k) = true := (ckL_5 h hk).2.2.1
theorem clT_fin {ci k : Nat} (h : ci < nclT) (hk : k < nfT ci) : (cT ci k).2.2.2 = finT ci k := (ckL_5 h hk).2.2.2.1
theorem clT_nm {ci : Nat} (h : ci < nclT) : ∀ a, a < nfT ci → ∀ b, b < nfT ci → a ≠ b → (cT ci a).2.1 ≠ (cT ci b).2.1 := fun _ ha b hb hne => (ckL_5 h ha).2.2.2.2 b hb hne
theorem rfcT_lt : rfcT < nclT := by decide
theorem arrI_ok : Cond.arrayClass (newarray.typeOf .int) ∈ tbT := wAt_in (p := 96) (by decide +kernel)
theorem arrZ_ok : Cond.arrayClass (newarray.typeOf .boolean) ∈ tbT := wAt_in (p := 774) (by decide +kernel)
theorem over_ok : Cond.arrayOver (.object rfnT) ∈ lw_tbl := List.mem_of_getElem? (i := 171) (by decide +kernel)
def ckN (c : Nat) (q : Nat × Nat × Nat) : Bool := Nat.blt q.2.1 8 && wAt q.2.2 (.classLink (cnT c) q.1 (cnT q.2.1)) && wAt (pnT q.2.1) (.instantiable (cnT q.2.1) (nfT q.2.1)) && wAt (piT q.2.1) (.initialized (cnT q.2.1))
theorem ckN_all : (List.range 10).all (fun c => (nwL.getD c []).all (ckN c)) = true := by decide +kernel
theorem newT_ok {j i ci : Nat} (h : newT j i = some ci) : ci < nclT ∧ Cond.classLink (ownT j) i (cnT ci) ∈ tbT ∧ Cond.instantiable (cnT ci) (nfT ci) ∈ tbT ∧ Cond.initialized (cnT ci) ∈ tbT := by
  unfold newT at h
  split at h
  · rename_i q hq
    cases h
    have hc := pm_all (by decide) ckN_all (List.mem_of_find?_eq_some hq)
    have hi : q.1 = i := by simpa using List.find?_some hq
    subst hi
    unfold ckN at hc
    simp only [Bool.and_eq_true] at hc
    exact ⟨Nat.blt_eq.mp hc.1.1.1, wAt_in hc.1.1.2, wAt_in hc.1.2, wAt_in hc.2⟩
  · cases h
theorem anwT_ok {j i : Nat} (h : anwT j i = true) : Cond.classLink (ownT j) i rfnT ∈ tbT := by
  unfold anwT at h
  simp only [Bool.and_eq_true, beq_iff_eq] at h
  unfold ownT
  rw [h.1, h.2]
  exact wAt_in (p := 170) (by decide +kernel)
def ckO (c : Nat) (q : Nat × Nat) : Bool := wAt q.2 (.methodLink (cnT c) q.1 Lib.objectInit)
theorem ckO_all : (List.range 10).all (fun c => (obL.getD c []).all (ckO c)) = true := by decide +kernel
theorem objT_ok {j i : Nat} (h : objT j i = true) : Cond.methodLink (ownT j) i Lib.objectInit ∈ tbT ∧ Cond.instanceMethod Lib.objectInit ∈ tbT ∧ Cond.code Lib.objectInit ⟨#[0xb1]⟩ 1 none ∈ tbT := by
  unfold objT at h
  obtain ⟨q, hq, hi⟩ := List.any_eq_true.mp h
  have hc := pm_all (by decide) ckO_all hq
  have hi : q.1 = i := by simpa using hi
  subst hi
  exact ⟨wAt_in hc, wAt_in (p := 72) (by decide +kernel), List.mem_filter.mpr ⟨List.mem_of_getElem? (i := 73) (by rfl), by rfl⟩⟩
def ckI (c : Nat) (q : Nat × Int32 × Nat) : Bool := wAt q.2.2 (.constant (cnT c) q.1 q.2.1)
theorem ckI_all : (List.range 10).all (fun c => (lcL.getD c []).all (ckI c)) = true := by decide +kernel
theorem ldcT_ok {j i : Nat} {x : Int32} (h : ldcT j i = some x) : Jvm.Cond.constant (ownT j) i x ∈ tbT := by
  unfold ldcT at h
  split at h
  · rename_i q hq
    cases h
    have hc := pm_all (by decide) ckI_all (List.mem_of_find?_eq_some hq)
    have hi : q.1 = i := by simpa using List.find?_some hq
    subst hi
    exact wAt_in hc
  · cases h
def ckJ (c : Nat) (q : Nat × Int64 × Nat) : Bool := wAt q.2.2 (.constantLong (cnT c) q.1 q.2.1)
theorem ckJ_all : (List.range 10).all (fun c => (l2L.getD c []).all (ckJ c)) = true := by decide +kernel
theorem ld2T_ok {j i : Nat} {x : Int64} (h : ld2T j i = some x) : Jvm.Cond.constantLong (ownT j) i x ∈ tbT := by
  unfold ld2T at h
  split at h
  · rename_i q hq
    cases h
    have hc := pm_all (by decide) ckJ_all (List.mem_of_find?_eq_some hq)
    have hi : q.1 = i := by simpa using List.find?_some hq
    subst hi
    exact wAt_in hc
  · cases h
theorem retT_0 {j : Nat} (h : retT j = 0) : rtyT j = none := by
  unfold retT at h
  split at h
  · assumption
  all_goals cases h
theorem retT_1 {j : Nat} (h : retT j = 1) : rtyT j = some .int := by
  unfold retT at h
  split at h
  all_goals first | assumption | cases h
theorem retT_2 {j : Nat} (h : retT j = 2) : rtyT j = some .boolean := by
  unfold retT at h
  split at h
  all_goals first | assumption | cases h
theorem retT_3 {j : Nat} (h : retT j = 3) : ∃ rt, rtyT j = some rt ∧ ((∃ n, rt = .object n) ∨ ∃ t, rt = .array t) := by
  unfold retT at h
  split at h
  all_goals first | (rename_i q; exact ⟨_, q, Or.inl ⟨_, rfl⟩⟩) | cases h
def ckM2 (j : Nat) : Bool := plainName (ynT j).cls && (!(iniT j) || decide ((ynT j).name = "<init>"))
theorem ckM2_all : (List.range 156).all (fun j => !(Nat.blt j 148) || ckM2 j) = true := by decide +kernel
theorem ini_156 : (List.range 156).all (fun j => Nat.blt j 148 || !(iniT j)) = true := by decide +kernel
theorem ynT_plain {j : Nat} (h : j < nmT) : plainName (ynT j).cls = true := by
  have h2 : j < 148 := h
  have := List.all_eq_true.mp ckM2_all j (List.mem_range.mpr (by omega))
  rw [Nat.blt_eq.mpr h2] at this
  unfold ckM2 at this
  simp at this
  exact this.1
theorem iniT_lt {j : Nat} (h : iniT j = true) : j < 148 := by
  by_cases h1 : j < 156
  · have := List.all_eq_true.mp ini_156 j (List.mem_range.mpr h1)
    rw [h] at this
    simpa using this
  · unfold iniT at h
    have e : iniL.getD (j / 12) [] = [] := by
      rw [List.getD_eq_getElem?_getD, List.getElem?_eq_none (show iniL.length ≤ j / 12 by show 13 ≤ j / 12; omega)]
      rfl
    rw [e] at h
    cases h
theorem iniT_ok {j : Nat} (h : iniT j = true) : (ynT j).name = "<init>" := by
  have h2 := iniT_lt h
  have := List.all_eq_true.mp ckM2_all j (List.mem_range.mpr (by omega))
  rw [Nat.blt_eq.mpr h2] at this
  unfold ckM2 at this
  rw [h] at this
  simp at this
  exact this.2
