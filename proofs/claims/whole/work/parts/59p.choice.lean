def chC (P1 P2 ty2 r2 v : Int32) (q85 : Int32 × Mem) : Option (Int32 × Mem) := (Re_lookAtEnded q85.1 ty2 v q85.2).bind fun q97 => (Re_take 93 q97).bind fun q103 => if isPo (ix (q103 15 2)) then (Po_landHere (ix (q103 15 2)) r2 q103).bind fun q112 => some (ty2, (mput q112 15 6 ((P1 ||| P2) &&& (q112 15 6)))) else none
def chB (rc : Nat → Int32 → Int32 → Mem → Option (Int32 × Mem)) (v1 v2 P1 r1 : Int32) (q43 : Int32 × Mem) : Option (Int32 × Mem) := (Re_branchAt 58 58 q43.2).bind fun q62 => if isPo (ix (q62.2 15 2)) then (Po_landHere (ix (q62.2 15 2)) r1 q62.2).bind fun q73 => (rc 0 v1 v2 q73).bind fun q85 => chC P1 (q43.2 15 6) q43.1 q62.1 (q73 15 3) q85 else none
def chA (rc : Nat → Int32 → Int32 → Mem → Option (Int32 × Mem)) (v1 v2 v : Int32) (q8 : Int32 × Mem) : Option (Int32 × Mem) := (Re_lookAtEnded q8.1 1 v q8.2).bind fun q18 => (Re_branchAt 58 91 q18).bind fun q32 => (rc 0 v1 (v2 ||| (q18 15 6)) q32.2).bind fun q43 => chB rc v1 v2 (q18 15 6) q32.1 q43
theorem ch_eq (rc : Nat → Int32 → Int32 → Mem → Option (Int32 × Mem)) (v1 v2 : Int32) (σ : Mem) : Re_choice rc v1 v2 σ = (rc 0 v1 v2 σ).bind fun q8 => chA rc v1 v2 (σ 15 3) q8 := rfl
section
variable {p : Nat} {σ0 τ0 : Mem} {len : Nat} {k5 : Int32 → Mem → Option Mem} {rc : Nat → Int32 → Int32 → Mem → Option (Int32 × Mem)} {d : Nat} {kn : Int32} {i a : Nat} {P : Int32} {j : Nat} {L f : Int32} {K W : Nat → Int32} {l : Nat} {C N : Nat → Int32} {F : Mem} {g : Int32} {m n : Nat} {G : Mem → Option Mem}
theorem chC_d (hC : CT p σ0 τ0 len) {b : Bool} {ρ : Int32} {σ : Mem} (h : Dead p σ0 len b ρ σ) (P1 P2 ty2 r2 v ty : Int32) : ∃ t1 σ1, chC P1 P2 ty2 r2 v (ty, σ) = some (t1, σ1) ∧ Dead p σ0 len true ρ σ1 := by
  obtain ⟨σ2, e2, h2⟩ := dd_tk hC h (v := 93) (by decide)
  obtain ⟨σ3, e3, h3⟩ := dd_lh hC h2 r2
  refine ⟨ty2, _, ?_, dd_p6 h3 ((P1 ||| P2) &&& (σ3 15 6))⟩
  unfold chC
  rw [dd_le hC h, Option.bind_some, e2, Option.bind_some, dd_ix hC h2, if_pos hC.1, e3, Option.bind_some]
theorem chB_d (hC : CT p σ0 τ0 len) (hD : DeadP p σ0 len rc 0) {b : Bool} {ρ : Int32} {σ : Mem} (h : Dead p σ0 len b ρ σ) (v1 v2 P1 r1 ty : Int32) : ∃ t1 σ1, chB rc v1 v2 P1 r1 (ty, σ) = some (t1, σ1) ∧ Dead p σ0 len true ρ σ1 := by
  obtain ⟨x, σ2, e2, h2⟩ := dd_br hC h (v := 58) (by decide) 58
  obtain ⟨σ3, e3, h3⟩ := dd_lh hC h2 r1
  obtain ⟨ty4, σ4, e4, h4⟩ := hD v1 v2 true ρ σ3 h3
  obtain ⟨t5, σ5, e5, h5⟩ := chC_d hC h4 P1 (σ 15 6) ty x (σ3 15 3) ty4
  refine ⟨t5, σ5, ?_, h5⟩
  unfold chB
  rw [e2, Option.bind_some]
  show (if isPo (ix (σ2 15 2)) then (Po_landHere (ix (σ2 15 2)) r1 σ2).bind fun q73 => _ else none) = _
  rw [dd_ix hC h2, if_pos hC.1, e3, Option.bind_some, e4, Option.bind_some]
  exact e5
theorem chA_d (hC : CT p σ0 τ0 len) (hD : DeadP p σ0 len rc 0) {b : Bool} {ρ : Int32} {σ : Mem} (h : Dead p σ0 len b ρ σ) (v1 v2 v ty : Int32) : ∃ t1 σ1, chA rc v1 v2 v (ty, σ) = some (t1, σ1) ∧ Dead p σ0 len true ρ σ1 := by
  obtain ⟨x, σ2, e2, h2⟩ := dd_br hC h (v := 58) (by decide) 91
  obtain ⟨ty4, σ4, e4, h4⟩ := hD v1 (v2 ||| (σ 15 6)) true ρ σ2 h2
  obtain ⟨t5, σ5, e5, h5⟩ := chB_d hC hD h4 v1 v2 (σ 15 6) x ty4
  refine ⟨t5, σ5, ?_, h5⟩
  unfold chA
  rw [dd_le hC h, Option.bind_some, e2, Option.bind_some]
  show ((rc 0 v1 (v2 ||| (σ 15 6)) σ2).bind fun q43 => chB rc v1 v2 (σ 15 6) x q43) = _
  rw [e4, Option.bind_some]
  exact e5
theorem r_brN (hC : CT p σ0 τ0 len) (hi : i < len) {v v2 : Int32} (hv : ¬ σ0 16 i = v) (hj : j < 160) : ∃ x σ1, Re_branchAt v v2 (mkX p σ0 i 0 a P j L f K W) = some (x, σ1) ∧ Dead p σ0 len true (-10 - nI i) σ1 := by
  have hlen := hC.2.1
  refine ⟨nI j, _, ?_, Or.inl ⟨ne_sub (by omega) (Or.inl rfl), i, a, P, j + 1, L ||| Po_bitsOf v2, f, upR1 K j v2, upR1 W j 0, hj, by omega, rfl⟩⟩
  unfold Re_branchAt
  rw [r_tkN hC hi hv, Option.bind_some, ct_ix hC, if_pos hC.1, p_ap hC.1 hj, Option.bind_some, ct_ix hC, if_pos hC.1, x_stp hC.1, nI_pred]
/-- a wrong type at the end of a part -/
theorem r84 {e i0 : Nat} {top b : Int32} (he : e < 8) (h36 : F 36 e = nI i0) (hi : i0 < 2 ^ 20) : Mo_endRow_b84 (nI e) b (mkM τ0 i 0 g top l a f C N F) = some (mkM τ0 i (-1000 - nI i0) g top l a f C N F) := by
  rw [row84 he, h36, if_neg (ne_sub hi (Or.inr rfl))]
theorem T_chc (hC : CT p σ0 τ0 len) (hA : AltP p σ0 τ0 len k5 (rc 0) (d + 1)) (hD : DeadP p σ0 len rc 0) (hd : d < 6) (hP : Pre len d i a j l m f) (hi : i < len) (hG : Gd τ0 k5 m i G) (hn : 2050 ≤ n + 1 + d) :
    ∃ ty σ1, Re_choice rc (nI (d + 1)) kn (mkX p σ0 (i + 1) 0 a P j L f K W) = some (ty, σ1) ∧ OutT p σ0 τ0 len k5 d m i a j l L K W C N F g ty σ1 ((Mo_readTerm_b2 n 1 (mkM τ0 (i + 1) 0 g (nI (d + 1)) l a f C N (bR (mput (oF F (d + 1) 3 i) 20 (d + 1) kn) (d + 1) kn))).bind G) := by
  have hlen := hC.2.1
  have hP1 := Pre_d hP hi hd
  obtain ⟨y1, y2, y3, y4, y5, y6, y7⟩ := bR_at (F := mput (oF F (d + 1) 3 i) 20 (d + 1) kn) (d := d + 1) (v := kn)
  have y14 : bR (mput (oF F (d + 1) 3 i) 20 (d + 1) kn) (d + 1) kn 14 (d + 1) = 3 := by rw [bR_ne (by omega), mput_ne (by omega)]; exact oF_at.1
  have y15 : bR (mput (oF F (d + 1) 3 i) 20 (d + 1) kn) (d + 1) kn 15 (d + 1) = nI i := by rw [bR_ne (by omega), mput_ne (by omega)]; exact oF_at.2.1
  have y16 : bR (mput (oF F (d + 1) 3 i) 20 (d + 1) kn) (d + 1) kn 16 (d + 1) = 0 := by rw [bR_ne (by omega), mput_ne (by omega)]; exact oF_at.2.2
  have y20 : bR (mput (oF F (d + 1) 3 i) 20 (d + 1) kn) (d + 1) kn 20 (d + 1) = kn := by rw [bR_ne (by omega), mput_eq]
  obtain ⟨ty, σ1, e1, o⟩ := hA kn (i + 1) a P j L f K W l C N _ g m n G hP1 (by omega) (by rw [y14]; decide) y1 y2 y3 y4 y5 y6 y7 (Gd_up hG (by omega))
  rw [ch_eq, e1, Option.bind_some]
  show ∃ ty1 σ2, chA rc (nI (d + 1)) kn (nI (i + 1)) (ty, σ1) = some (ty1, σ2) ∧ _
  rcases o with ⟨ρ, τ1, o1, o2, o3⟩ | ⟨i1, a1, P1, j1, l1, L1, f1, K1, W1, C1, N1, F1, t1, e1, m1, rfl, rfl, b1, b2, b4, b5, b6, ⟨g36, g37, g38⟩, b8⟩
  · obtain ⟨t5, σ5, e5, h5⟩ := chA_d hC hD o1 (nI (d + 1)) kn (nI (i + 1)) ty
    exact ⟨t5, σ5, e5, Or.inl ⟨ρ, τ1, h5, o2, o3⟩⟩
  have hP2 := Pre_ex (m1 := m1 + 1) hP1 b5 (by omega) b2 b4
  have hl1 : l1 + 1 < 160 := by have := hP2.2.2.1; have := hP2.2.2.2.1; omega
  have hj1 : j1 + 1 < 160 := by have := hP2.2.2.1; omega
  have x14 : F1 14 (d + 1) = 3 := by rw [b6 14 (d + 1) (by omega) (by omega)]; exact y14
  have x15 : F1 15 (d + 1) = nI i := by rw [b6 15 (d + 1) (by omega) (by omega)]; exact y15
  have x16 : F1 16 (d + 1) = 0 := by rw [b6 16 (d + 1) (by omega) (by omega)]; exact y16
  have x20 : F1 20 (d + 1) = kn := by rw [b6 20 (d + 1) (by omega) (by omega)]; exact y20
  have hm1 : 1 ≤ m1 := by have := hP2.2.2.2.2.2.1; omega
  obtain ⟨m1, rfl⟩ : ∃ q, m1 = q + 1 := ⟨m1 - 1, by omega⟩
  have ht1 := b5.1.2.2.2.2.2.2
  rw [b8, row_c0 (by omega) x14 x16, g37]
  rcases (show t1 = 0 ∨ t1 = 1 by omega) with rfl | rfl
  · have nz : (-1000 - nI (i + 1) : Int32) ≠ 0 := ne_sub (by omega) (Or.inr rfl)
    have hdd : Dead p σ0 len true (-1000 - nI (i + 1)) (mkX p σ0 i1 (-1000 - nI (i + 1)) a1 P1 j1 L1 f1 K1 W1) := Or.inl ⟨nz, _, _, _, _, _, _, _, _, by omega, by omega, rfl⟩
    obtain ⟨t5, σ5, e5, h5⟩ := chA_d hC hD hdd (nI (d + 1)) kn (nI (i + 1)) (nI 0)
    unfold chA at e5 ⊢
    rw [dd_le hC hdd, Option.bind_some] at e5
    show ∃ ty1 σ2, ((Re_lookAtEnded (nI 0) 1 (nI (i + 1)) (mkX p σ0 i1 0 a1 P1 j1 L1 f1 K1 W1)).bind fun q18 => _) = some (ty1, σ2) ∧ _
    rw [r_le hC b1, r_lkN _ (show ¬ nI 0 = 1 by decide), Option.bind_some, if_neg (show ¬ nI (0 + 1) = 2 by decide), r84 (by omega) g36 (by omega), Option.bind_some]
    exact ⟨t5, σ5, e5, Or.inl (outR_i h5 (by omega) (AF_ref i1 nz))⟩
  rw [if_pos (show nI (1 + 1) = 2 from rfl), row141 (by omega)]
  unfold chA
  show ∃ ty1 σ2, ((Re_lookAtEnded (nI 1) 1 (nI (i + 1)) (mkX p σ0 i1 0 a1 P1 j1 L1 f1 K1 W1)).bind fun q18 => _) = some (ty1, σ2) ∧ _
  rw [r_le hC b1, r_lk _ (show nI 1 = 1 from rfl), Option.bind_some]
  by_cases hb1 : ¬ σ0 16 i1 = 58
  · have nz : (-10 - nI i1 : Int32) ≠ 0 := ne_sub (by omega) (Or.inl rfl)
    obtain ⟨x, σ2, e2, h2⟩ := r_brN (a := a1) (P := P1) (L := L1) (f := f1) (K := K1) (W := W1) hC b1 (v := 58) (v2 := 91) hb1 (j := j1) (by omega)
    obtain ⟨ty4, σ4, e4, h4⟩ := hD (nI (d + 1)) (kn ||| P1) true _ σ2 h2
    obtain ⟨t5, σ5, e5, h5⟩ := chB_d hC hD h4 (nI (d + 1)) kn P1 x ty4
    rw [e2, Option.bind_some, if_neg hb1, Option.bind_some]
    show ∃ ty1 σ3, ((rc 0 (nI (d + 1)) (kn ||| P1) σ2).bind fun q43 => chB rc (nI (d + 1)) kn P1 x q43) = some (ty1, σ3) ∧ _
    rw [e4, Option.bind_some]
    exact ⟨t5, σ5, e5, Or.inl (outR_i h5 (by omega) (AF_ref i1 nz))⟩
  have hb1 : σ0 16 i1 = 58 := Classical.not_not.mp hb1
  rw [r_br hC b1 hb1 (by omega), Option.bind_some, if_pos hb1, R157_c0 (by omega) x14 x16 (by omega), g38, x20]
  show ∃ ty1 σ3, ((rc 0 (nI (d + 1)) (kn ||| P1) (mkX p σ0 (i1 + 1) 0 a1 P1 (j1 + 1) (L1 ||| Po_bitsOf 91) f1 (upR1 K1 j1 91) (upR1 W1 j1 0))).bind fun q43 => chB rc (nI (d + 1)) kn P1 (nI j1) q43) = some (ty1, σ3) ∧ _
  have hP3 : Pre len (d + 1) (i1 + 1) a1 (j1 + 1) (l1 + 1) (m1 + 1) f1 := by
    obtain ⟨z1, z2, z3, z4, z5, z6, z7⟩ := hP2
    exact ⟨z1, b1, by omega, by omega, z5, by omega, z7⟩
  have hG2 : Gd τ0 k5 (m1 + 1) (i1 + 1) (AF k5 (m1 + 1) i1) := AF_gd hC b1 (by rw [hb1]; unfold isSn; decide)
  obtain ⟨v1, v2, v3, v4, v5, v6, v7⟩ := bR_at (F := mput (mput (mput F1 18 (d + 1) P1) 21 (d + 1) (nI l1)) 16 (d + 1) 1) (d := d + 1) (v := kn ||| P1)
  have hv : ∀ c, c < 23 → c ≠ 18 → c ≠ 21 → c ≠ 16 → bR (mput (mput (mput F1 18 (d + 1) P1) 21 (d + 1) (nI l1)) 16 (d + 1) 1) (d + 1) (kn ||| P1) c (d + 1) = F1 c (d + 1) := fun c h1 h2 h3 h4 => by
    rw [bR_ne (by omega), mput_ne (by omega), mput_ne (by omega), mput_ne (by omega)]
  have v16 : bR (mput (mput (mput F1 18 (d + 1) P1) 21 (d + 1) (nI l1)) 16 (d + 1) 1) (d + 1) (kn ||| P1) 16 (d + 1) = 1 := by rw [bR_ne (by omega), mput_eq]
  have v18 : bR (mput (mput (mput F1 18 (d + 1) P1) 21 (d + 1) (nI l1)) 16 (d + 1) 1) (d + 1) (kn ||| P1) 18 (d + 1) = P1 := by rw [bR_ne (by omega), mput_ne (by omega), mput_ne (by omega), mput_eq]
  have v21 : bR (mput (mput (mput F1 18 (d + 1) P1) 21 (d + 1) (nI l1)) 16 (d + 1) 1) (d + 1) (kn ||| P1) 21 (d + 1) = nI l1 := by rw [bR_ne (by omega), mput_ne (by omega), mput_eq]
  obtain ⟨ty, σ1, e2, o⟩ := hA (kn ||| P1) (i1 + 1) a1 P1 (j1 + 1) (L1 ||| Po_bitsOf 91) f1 (upR1 K1 j1 91) (upR1 W1 j1 0) (l1 + 1) (upR1 C1 l1 3) (upR1 N1 l1 (-1)) _ g (m1 + 1) FU (AF k5 (m1 + 1) i1) hP3 (by unfold FU; omega) (by rw [hv 14 (by omega) (by omega) (by omega) (by omega), x14]; decide) v1 v2 v3 v4 v5 v6 v7 hG2
  rw [e2, Option.bind_some]
  rcases o with ⟨ρ, τ1, o1, o2, o3⟩ | ⟨i2, a2, P2, j2, l2, L2, f2, K2, W2, C2, N2, F2, t2, e2, m2, rfl, rfl, c1, c2, c4, c5, c6, ⟨w36, w37, w38⟩, c8⟩
  · obtain ⟨t5, σ5, e5, h5⟩ := chB_d hC hD o1 (nI (d + 1)) kn P1 (nI j1) ty
    exact ⟨t5, σ5, e5, Or.inl ⟨ρ, τ1, h5, o2, o3⟩⟩
  have hP4 := Pre_ex (m1 := m2 + 1) hP3 c5 (by omega) c2 c4
  have hl2 : l2 + 1 < 160 := by have := hP4.2.2.1; have := hP4.2.2.2.1; omega
  have hj2 : j2 + 1 < 160 := by have := hP4.2.2.1; omega
  have hj12 := c5.1.2.1
  have hl12 : l1 + 1 ≤ l2 := c5.2.2.2.2.1.1
  have w14 : F2 14 (d + 1) = 3 := by rw [c6 14 (d + 1) (by omega) (by omega), hv 14 (by omega) (by omega) (by omega) (by omega)]; exact x14
  have w15 : F2 15 (d + 1) = nI i := by rw [c6 15 (d + 1) (by omega) (by omega), hv 15 (by omega) (by omega) (by omega) (by omega)]; exact x15
  have w16 : F2 16 (d + 1) = 1 := by rw [c6 16 (d + 1) (by omega) (by omega)]; exact v16
  have w18 : F2 18 (d + 1) = P1 := by rw [c6 18 (d + 1) (by omega) (by omega)]; exact v18
  have w20 : F2 20 (d + 1) = kn := by rw [c6 20 (d + 1) (by omega) (by omega), hv 20 (by omega) (by omega) (by omega) (by omega)]; exact x20
  have w21 : F2 21 (d + 1) = nI l1 := by rw [c6 21 (d + 1) (by omega) (by omega)]; exact v21
  have hm2 : 1 ≤ m2 := by have := hP4.2.2.2.2.2.1; omega
  obtain ⟨m2, rfl⟩ : ∃ q, m2 = q + 1 := ⟨m2 - 1, by omega⟩
  have hN2 : N2 l1 = -1 := by rw [(c5.2.2.2.2.2.2.2 l1 (by omega)).2, up_eq]
  rw [c8, row_c1 (by omega) w14 w16, row141 (by omega)]
  unfold chB
  show ∃ ty1 σ3, ((Re_branchAt 58 58 (mkX p σ0 i2 0 a2 P2 j2 L2 f2 K2 W2)).bind fun q62 => if isPo (ix (q62.2 15 2)) then (Po_landHere (ix (q62.2 15 2)) (nI j1) q62.2).bind fun q73 => (rc 0 (nI (d + 1)) kn q73).bind fun q85 => chC P1 P2 (nI t2) q62.1 (q73 15 3) q85 else none) = some (ty1, σ3) ∧ _
  by_cases hb2 : ¬ σ0 16 i2 = 58
  · have nz : (-10 - nI i2 : Int32) ≠ 0 := ne_sub (by omega) (Or.inl rfl)
    obtain ⟨x, σ2, e2, h2⟩ := r_brN (a := a2) (P := P2) (L := L2) (f := f2) (K := K2) (W := W2) hC c1 (v := 58) (v2 := 58) hb2 (j := j2) (by omega)
    obtain ⟨σ3, e3, h3⟩ := dd_lh hC h2 (nI j1)
    obtain ⟨ty4, σ4, e4, h4⟩ := hD (nI (d + 1)) kn true _ σ3 h3
    obtain ⟨t5, σ5, e5, h5⟩ := chC_d hC h4 P1 P2 (nI t2) x (σ3 15 3) ty4
    rw [e2, Option.bind_some, if_neg hb2, Option.bind_some]
    show ∃ ty1 σ6, (if isPo (ix (σ2 15 2)) then (Po_landHere (ix (σ2 15 2)) (nI j1) σ2).bind fun q73 => (rc 0 (nI (d + 1)) kn q73).bind fun q85 => chC P1 P2 (nI t2) x (q73 15 3) q85 else none) = some (ty1, σ6) ∧ _
    rw [dd_ix hC h2, if_pos hC.1, e3, Option.bind_some, e4, Option.bind_some]
    exact ⟨t5, σ5, e5, Or.inl (outR_i h5 (by omega) (AF_ref i2 nz))⟩
  have hb2 : σ0 16 i2 = 58 := Classical.not_not.mp hb2
  rw [r_br hC c1 hb2 (by omega), Option.bind_some, if_pos hb2, R157_c1 (by omega) w14 w16 (by omega) (show l1 < l2 by omega) w21 hN2, w38, w37, w20, pt1]
  show ∃ ty1 σ3, (if isPo (ix (mkX p σ0 (i2 + 1) 0 a2 P2 (j2 + 1) (L2 ||| Po_bitsOf 58) f2 (upR1 K2 j2 58) (upR1 W2 j2 0) 15 2)) then (Po_landHere (ix (mkX p σ0 (i2 + 1) 0 a2 P2 (j2 + 1) (L2 ||| Po_bitsOf 58) f2 (upR1 K2 j2 58) (upR1 W2 j2 0) 15 2)) (nI j1) (mkX p σ0 (i2 + 1) 0 a2 P2 (j2 + 1) (L2 ||| Po_bitsOf 58) f2 (upR1 K2 j2 58) (upR1 W2 j2 0))).bind fun q73 => (rc 0 (nI (d + 1)) kn q73).bind fun q85 => chC P1 P2 (nI t2) (nI j2) (q73 15 3) q85 else none) = some (ty1, σ3) ∧ _
  rw [ct_ix hC, if_pos hC.1, p_lh hC.1 (by omega) (by omega), Option.bind_some, x_pos]
  have hP5 : Pre len (d + 1) (i2 + 1) a2 (j2 + 1) (l2 + 1) (m2 + 1) f2 := by
    obtain ⟨z1, z2, z3, z4, z5, z6, z7⟩ := hP4
    exact ⟨z1, c1, by omega, by omega, z5, by omega, z7⟩
  have hG3 : Gd τ0 k5 (m2 + 1) (i2 + 1) (AF k5 (m2 + 1) i2) := AF_gd hC c1 (by rw [hb2]; unfold isSn; decide)
  obtain ⟨u1, u2, u3, u4, u5, u6, u7⟩ := bR_at (F := mput (mput (mput (mput F2 19 (d + 1) P2) 17 (d + 1) (nI (t2 + 1))) 22 (d + 1) (nI l2)) 16 (d + 1) 2) (d := d + 1) (v := kn)
  have hu : ∀ c, c < 23 → c ≠ 19 → c ≠ 17 → c ≠ 22 → c ≠ 16 → bR (mput (mput (mput (mput F2 19 (d + 1) P2) 17 (d + 1) (nI (t2 + 1))) 22 (d + 1) (nI l2)) 16 (d + 1) 2) (d + 1) kn c (d + 1) = F2 c (d + 1) := fun c h1 h2 h3 h4 h5 => by
    rw [bR_ne (by omega), mput_ne (by omega), mput_ne (by omega), mput_ne (by omega), mput_ne (by omega)]
  have u16 : bR (mput (mput (mput (mput F2 19 (d + 1) P2) 17 (d + 1) (nI (t2 + 1))) 22 (d + 1) (nI l2)) 16 (d + 1) 2) (d + 1) kn 16 (d + 1) = 2 := by rw [bR_ne (by omega), mput_eq]
  have u22 : bR (mput (mput (mput (mput F2 19 (d + 1) P2) 17 (d + 1) (nI (t2 + 1))) 22 (d + 1) (nI l2)) 16 (d + 1) 2) (d + 1) kn 22 (d + 1) = nI l2 := by rw [bR_ne (by omega), mput_ne (by omega), mput_eq]
  have u17 : bR (mput (mput (mput (mput F2 19 (d + 1) P2) 17 (d + 1) (nI (t2 + 1))) 22 (d + 1) (nI l2)) 16 (d + 1) 2) (d + 1) kn 17 (d + 1) = nI (t2 + 1) := by rw [bR_ne (by omega), mput_ne (by omega), mput_ne (by omega), mput_eq]
  have u19 : bR (mput (mput (mput (mput F2 19 (d + 1) P2) 17 (d + 1) (nI (t2 + 1))) 22 (d + 1) (nI l2)) 16 (d + 1) 2) (d + 1) kn 19 (d + 1) = P2 := by rw [bR_ne (by omega), mput_ne (by omega), mput_ne (by omega), mput_ne (by omega), mput_eq]
  obtain ⟨ty, σ1, e5, o⟩ := hA kn (i2 + 1) a2 P2 (j2 + 1) (L2 ||| Po_bitsOf 58) f2 (upR1 K2 j2 58) (upR1 (upR1 W2 j2 0) j1 (nI (j2 + 1))) (l2 + 1) (upR1 C2 l2 4) (upR1 (upR1 N2 l2 (-1)) l1 (nI (l2 + 1))) _ g (m2 + 1) FU (AF k5 (m2 + 1) i2) hP5 (by unfold FU; omega) (by rw [hu 14 (by omega) (by omega) (by omega) (by omega) (by omega), w14]; decide) u1 u2 u3 u4 u5 u6 u7 hG3
  rw [e5, Option.bind_some]
  rcases o with ⟨ρ, τ1, o1, o2, o3⟩ | ⟨i3, a3, P3, j3, l3, L3, f3, K3, W3, C3, N3, F3, t3, de3, m3, rfl, rfl, q1, q2, q4, q5, q6, ⟨z36, z37, z38⟩, q8⟩
  · obtain ⟨t5, σ5, e5, h5⟩ := chC_d hC o1 P1 P2 (nI t2) (nI j2) (nI (i2 + 1)) ty
    exact ⟨t5, σ5, e5, Or.inl ⟨ρ, τ1, h5, o2, o3⟩⟩
  have hP6 := Pre_ex (m1 := m3 + 1) hP5 q5 (by omega) q2 q4
  have hl3 : l3 + 1 < 160 := by have := hP6.2.2.1; have := hP6.2.2.2.1; omega
  have hj3 : j3 < 160 := by have := hP6.2.2.1; omega
  have hj23 := q5.1.2.1
  have hl23 : l2 + 1 ≤ l3 := q5.2.2.2.2.1.1
  have ht2 := c5.1.2.2.2.2.2.2
  have ht3 := q5.1.2.2.2.2.2.2
  have z14 : F3 14 (d + 1) = 3 := by rw [q6 14 (d + 1) (by omega) (by omega), hu 14 (by omega) (by omega) (by omega) (by omega) (by omega)]; exact w14
  have z15 : F3 15 (d + 1) = nI i := by rw [q6 15 (d + 1) (by omega) (by omega), hu 15 (by omega) (by omega) (by omega) (by omega) (by omega)]; exact w15
  have z16 : F3 16 (d + 1) = 2 := by rw [q6 16 (d + 1) (by omega) (by omega)]; exact u16
  have z17 : F3 17 (d + 1) = nI (t2 + 1) := by rw [q6 17 (d + 1) (by omega) (by omega)]; exact u17
  have z18 : F3 18 (d + 1) = P1 := by rw [q6 18 (d + 1) (by omega) (by omega), hu 18 (by omega) (by omega) (by omega) (by omega) (by omega)]; exact w18
  have z19 : F3 19 (d + 1) = P2 := by rw [q6 19 (d + 1) (by omega) (by omega)]; exact u19
  have z22 : F3 22 (d + 1) = nI l2 := by rw [q6 22 (d + 1) (by omega) (by omega)]; exact u22
  have hm3 : 1 ≤ m3 := by have := hP6.2.2.2.2.2.1; omega
  obtain ⟨m3, rfl⟩ : ∃ q, m3 = q + 1 := ⟨m3 - 1, by omega⟩
  have hN3 : N3 l2 = -1 := by rw [(q5.2.2.2.2.2.2.2 l2 (by omega)).2, up_ne (by omega), up_eq]
  rw [q8, row_c2 (by omega) z14 z16, z37, z17]
  unfold chC
  show ∃ ty1 σ3, ((Re_lookAtEnded (nI t3) (nI t2) (nI (i2 + 1)) (mkX p σ0 i3 0 a3 P3 j3 L3 f3 K3 W3)).bind fun q97 => (Re_take 93 q97).bind fun q103 => if isPo (ix (q103 15 2)) then (Po_landHere (ix (q103 15 2)) (nI j2) q103).bind fun q112 => some (nI t2, (mput q112 15 6 ((P1 ||| P2) &&& (q112 15 6)))) else none) = some (ty1, σ3) ∧ _
  by_cases htt : ¬ t3 = t2
  · have hne : ¬ nI t3 = nI t2 := fun z => htt ((nI_eq (by omega) (by omega)).mp z)
    have hne2 : ¬ nI (t3 + 1) = nI (t2 + 1) := fun z => htt (by have := (nI_eq (by omega) (by omega)).mp z; omega)
    have nz : (-1000 - nI (i2 + 1) : Int32) ≠ 0 := ne_sub (by omega) (Or.inr rfl)
    have hdd : Dead p σ0 len true (-1000 - nI (i2 + 1)) (mkX p σ0 i3 (-1000 - nI (i2 + 1)) a3 P3 j3 L3 f3 K3 W3) := Or.inl ⟨nz, _, _, _, _, _, _, _, _, by omega, by omega, rfl⟩
    obtain ⟨t5, σ5, e5, h5⟩ := chC_d hC hdd P1 P2 (nI t2) (nI j2) (nI (i2 + 1)) (nI t3)
    unfold chC at e5
    rw [dd_le hC hdd, Option.bind_some] at e5
    rw [r_le hC q1, r_lkN _ hne, Option.bind_some, if_neg hne2, r84 (by omega) z36 (by omega), Option.bind_some]
    exact ⟨t5, σ5, e5, Or.inl (outR_i h5 (by omega) (AF_ref i3 nz))⟩
  have htt : t3 = t2 := Classical.not_not.mp htt
  subst htt
  rw [r_le hC q1, r_lk _ rfl, Option.bind_some, if_pos rfl, row141 (by omega)]
  by_cases hb3 : ¬ σ0 16 i3 = 93
  · have nz : (-10 - nI i3 : Int32) ≠ 0 := ne_sub (by omega) (Or.inl rfl)
    have hdd : Dead p σ0 len true (-10 - nI i3) (mkX p σ0 i3 (-10 - nI i3) a3 P3 j3 L3 f3 K3 W3) := Or.inl ⟨nz, _, _, _, _, _, _, _, _, by omega, by omega, rfl⟩
    obtain ⟨σ4, e4, h4⟩ := dd_lh hC hdd (nI j2)
    rw [r_tkN hC q1 hb3, Option.bind_some, ct_ix hC, if_pos hC.1, e4, Option.bind_some, if_neg hb3, Option.bind_some]
    exact ⟨_, _, rfl, Or.inl (outR_i (dd_p6 h4 _) (by omega) (AF_ref i3 nz))⟩
  have hb3 : σ0 16 i3 = 93 := Classical.not_not.mp hb3
  rw [r_tk hC q1 hb3, Option.bind_some, ct_ix hC, if_pos hC.1, p_lh hC.1 (by omega) (by omega), Option.bind_some, x_prv, x_p6, if_pos hb3, R157_c2 (by omega) z14 z16 (by omega) (show l2 < l3 by omega) z22 hN3, z37, z18, z19, z38, z15, pt1]
  refine ⟨_, _, rfl, Or.inr ⟨i3 + 1, a3, (P1 ||| P2) &&& P3, j3, l3, L3, f3, K3, _, C3, _, F3, t3, _, m3 + 1, FU, AF k5 (m3 + 1) i3, rfl, rfl, by omega, by omega, by unfold FU; omega, q4, Ex_ch b5 c5 q5, fun c u hu hc => ?_, AF_gd hC q1 (by rw [hb3]; unfold isSn; decide), rfl⟩⟩
  rw [q6 c u (by omega) (by omega), bR_ne (by omega), mput_ne (by omega), mput_ne (by omega), mput_ne (by omega), mput_ne (by omega), c6 c u (by omega) (by omega), bR_ne (by omega), mput_ne (by omega), mput_ne (by omega), mput_ne (by omega), b6 c u (by omega) (by omega), bR_ne (by omega), mput_ne (by omega), oF_ne (by omega)]
end
