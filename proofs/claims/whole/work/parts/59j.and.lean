/-- a sign & or | between two expressions, as the class has it; the reference's own chain is given -/
theorem Ex_jn {op : Den → Den → Den} {c c2 : Int32} (hop : ∀ (k w : Nat → Int32) (i j l a b : Nat) (e1 e2 : Den), SegX k w i j a e1 → k j = c → w j = nI l → SegX k w (j + 1) l b e2 → SegX k w i l (a + b) (op e1 e2)) (hdep : ∀ L e1 e2, DepE L e1 → DepE L e2 → DepE L (op e1 e2)) (htr : ∀ e1 e2, Tr01 e1 → Tr01 e2 → Tr01 (op e1 e2))
    {i a j l : Nat} {L : Int32} {K W C N : Nat → Int32} {i1 a1 j1 l1 : Nat} {L1 x0 : Int32} {K1 W1 C1 N1 NN : Nat → Int32} {e1 : Den} {i2 a2 j2 l2 : Nat} {L2 : Int32} {K2 W2 C2 N2 N3 : Nat → Int32} {e2 : Den}
    (h1 : Ex i a j l L K W C N i1 a1 j1 l1 L1 K1 W1 C1 N1 1 e1) (h2 : Ex (i1 + 1) a1 (j1 + 1) (l1 + 1) (L1 ||| x0) (upR1 K1 j1 c) (upR1 W1 j1 0) (upR1 C1 l1 c2) NN i2 a2 j2 l2 L2 K2 W2 C2 N2 1 e2) (hs : SegM C2 N3 l l2 (a2 - a) (op e1 e2)) (hN : ∀ q, q < l → N3 q = N q) :
    Ex i a j l L K W C N i2 a2 j2 l2 L2 K2 (upR1 W2 j1 (nI j2)) C2 N3 1 (op e1 e2) := by
  obtain ⟨⟨n1, n2, n3, n4, n5, n6, n7⟩, ⟨x, hx⟩, d1, sx1, sm1, t1, k1, c1⟩ := h1
  obtain ⟨⟨m1, m2, m3, m4, m5, m6, m7⟩, ⟨y, hy⟩, d2, sx2, sm2, t2, k2, cc⟩ := h2
  have hl : l ≤ l1 := sm1.1
  have hl2 : l1 + 1 ≤ l2 := sm2.1
  refine ⟨⟨by omega, by omega, by omega, by omega, by omega, by omega, by omega⟩, ⟨x ||| x0 ||| y, by rw [hy, hx, or_as, or_as, or_as]⟩, ?_, ?_, hs, fun _ => htr _ _ (t1 rfl) (t2 rfl), fun q hq => ?_, fun q hq => ⟨?_, hN q hq⟩⟩
  · refine hdep _ _ _ ?_ d2
    rw [hy]
    exact DepE_up (DepE_up d1)
  · rw [show a2 - a = (a1 - a) + (a2 - a1) by omega]
    refine hop _ _ j j1 j2 _ _ _ _ (SegX_cg sx1 (fun q b1 b2 => ?_)) ?_ up_eq (SegX_cg sx2 (fun q b1 b2 => ?_))
    · rw [up_ne (by omega), (k2 q (by omega)).1, (k2 q (by omega)).2, up_ne (by omega), up_ne (by omega)]
      exact ⟨rfl, rfl⟩
    · rw [(k2 j1 (by omega)).1, up_eq]
    · rw [up_ne (by omega)]
      exact ⟨rfl, rfl⟩
  · rw [up_ne (by omega), (k2 q (by omega)).1, (k2 q (by omega)).2, up_ne (by omega), up_ne (by omega)]
    exact k1 q hq
  · rw [(cc q (by omega)).1, up_ne (by omega)]
    exact (c1 q hq).1
def OutA (p : Nat) (σ0 τ0 : Mem) (len : Nat) (k5 : Int32 → Mem → Option Mem) (d m i a j l : Nat) (L : Int32) (K W C N : Nat → Int32) (F : Mem) (g ty : Int32) (σ1 : Mem) (E : Option Mem) : Prop :=
  OutR p σ0 τ0 len k5 false σ1 E ∨ ∃ i1 a1 P1 j1 l1 L1 f1 K1 W1 C1 N1 F1 t e m1 js, ty = nI t ∧ σ1 = mkX p σ0 i1 0 a1 P1 j1 L1 f1 K1 W1 ∧ i1 < len ∧ m + i ≤ m1 + 1 + i1 ∧ (f1 = 0 ∨ f1 = 1) ∧ Ex i a j l L K W C N i1 a1 j1 l1 L1 K1 W1 C1 (pt N1 js (nI l1)) t e ∧ Fr 23 34 d F F1 ∧ (F1 23 d = 0 ∧ F1 27 d = 0 ∧ F1 31 d = nI i ∧ F1 32 d = nI (t + 1) ∧ F1 33 d = P1) ∧ Lk N1 l l1 (F1 34 d) js ∧ ¬ σ0 16 i1 = 38 ∧ E = (Mo_endAnd (nI d) (σ0 16 i1) (mkM τ0 i1 0 g (nI d) l1 a1 f1 C1 N1 F1)).bind (AF k5 m1 i1)
def AndP (p : Nat) (σ0 τ0 : Mem) (len : Nat) (k5 : Int32 → Mem → Option Mem) (fn : Int32 → Int32 → Mem → Option (Int32 × Mem)) (d : Nat) : Prop :=
  ∀ kn i a P j L f K W l C N F g m nf G ks, Pre len d i a j l m f → 2050 ≤ nf + d → ¬ F 14 d = 4 → F 23 d = 0 → F 27 d = 0 → F 30 d = 0 → F 34 d = -1 → F 40 d = kn → Lk N 0 l (F 39 d) ks → Gd τ0 k5 m i G → ∃ ty σ1, fn (nI d) kn (mkX p σ0 i 0 a P j L f K W) = some (ty, σ1) ∧ OutA p σ0 τ0 len k5 d m i a j l L K W C N F g ty σ1 ((Mo_readTerm_b2 nf 1 (mkM τ0 i 0 g (nI d) l a f C N F)).bind G)
theorem pt_ne {N : Nat → Int32} {js : List Nat} {x : Int32} {k : Nat} (h : k ∉ js) : pt N js x k = N k := if_neg h
section
variable {p : Nat} {σ0 τ0 : Mem} {len : Nat} {k5 : Int32 → Mem → Option Mem} {rc : Nat → Int32 → Int32 → Mem → Option (Int32 × Mem)} {d : Nat}
theorem A_dead (hC : CT p σ0 τ0 len) {b : Bool} {ρ : Int32} {σ : Mem} (h : Dead p σ0 len b ρ σ) {n c : Nat} (hn : 1 ≤ n) (hc : c < 160) (x y v3 v4 v5 : Int32) : Re_ands_b22 rc n x y v3 v4 v5 (nI c) σ = some (v4, mput σ 15 6 v5) := by
  obtain ⟨n, rfl⟩ : ∃ q, n = q + 1 := ⟨n - 1, by omega⟩
  rw [Re_ands_b22, if_neg (show ¬ (160 : Int32) ≤ nI c from nI_ge (a := c) (b := 160) hc n31), dd_nx hC h, Option.bind_some, if_pos (by decide)]
  rfl
theorem A_tail (hC : CT p σ0 τ0 len) {b : Bool} {ρ : Int32} {σ : Mem} (h : Dead p σ0 len b ρ σ) {n c : Nat} (hn : 1 ≤ n) (hc : c + 1 < 160) (x y v3 v5 ty v r : Int32) : ∃ σ1, (Re_lookAtEnded ty 1 v σ).bind (fun q78 => if isPo (ix (q78 15 2)) then (Po_landHere (ix (q78 15 2)) r q78).bind fun q96 => Re_ands_b22 rc n x y v3 ty (v5 ||| (q78 15 6)) (nI c + 1) q96 else none) = some (ty, σ1) ∧ Dead p σ0 len b ρ σ1 := by
  obtain ⟨σ2, e2, h2⟩ := dd_lh hC h r
  refine ⟨_, ?_, dd_p6 h2 (v5 ||| (σ 15 6))⟩
  rw [dd_le hC h, Option.bind_some, dd_ix hC h, if_pos hC.1, e2, Option.bind_some, nI_1]
  exact A_dead hC h2 hn hc x y v3 ty _
/-- the sign of a branch is taken -/
theorem r_br (hC : CT p σ0 τ0 len) {i : Nat} (hi : i < len) {v v2 : Int32} (hv : σ0 16 i = v) {a : Nat} {P : Int32} {j : Nat} (hj : j < 160) {L f : Int32} {K W : Nat → Int32} : Re_branchAt v v2 (mkX p σ0 i 0 a P j L f K W) = some (nI j, mkX p σ0 (i + 1) 0 a P (j + 1) (L ||| Po_bitsOf v2) f (upR1 K j v2) (upR1 W j 0)) := by
  unfold Re_branchAt
  rw [r_tk hC hi hv, Option.bind_some, ct_ix hC, if_pos hC.1, p_ap hC.1 hj, Option.bind_some, ct_ix hC, if_pos hC.1, x_stp hC.1, nI_pred]
theorem A_loop (hC : CT p σ0 τ0 len) (hS : CmpP p σ0 τ0 len k5 (rc 2) d) (hD : DeadP p σ0 len rc 2) {kn : Int32} {i a j l : Nat} {L : Int32} {K W C N : Nat → Int32} {F : Mem} {g : Int32} {m : Nat} {f : Int32} {ks : List Nat} (hP : Pre len d i a j l m f) (h14 : ¬ F 14 d = 4) (h40 : F 40 d = kn) (hks : Lk N 0 l (F 39 d) ks) :
    ∀ (n c i1 a1 : Nat) (P0 P1 : Int32) (j1 l1 : Nat) (L1 f1 : Int32) (K1 W1 C1 N1 : Nat → Int32) (F1 : Mem) (t : Nat) (e : Den) (m1 : Nat) (js : List Nat), len < n + i1 → c < i1 → i1 < len → m + i ≤ m1 + 1 + i1 → (f1 = 0 ∨ f1 = 1) → Ex i a j l L K W C N i1 a1 j1 l1 L1 K1 W1 C1 (pt N1 js (nI l1)) t e → CSt 1 C1 N1 js l l1 (a1 - a) e → Fr 23 34 d F F1 → (F1 23 d = 0 ∧ F1 27 d = 0 ∧ F1 31 d = nI i ∧ F1 32 d = nI (t + 1) ∧ F1 33 d = P1) → Lk N1 l l1 (F1 34 d) js →
      ∃ ty σ1, Re_ands_b22 rc n (nI d) kn (nI i) (nI t) P1 (nI c) (mkX p σ0 i1 0 a1 P0 j1 L1 f1 K1 W1) = some (ty, σ1) ∧ OutA p σ0 τ0 len k5 d m i a j l L K W C N F g ty σ1 ((Mo_goOn_b283 (σ0 16 i1) (nI d) (mkM τ0 i1 0 g (nI d) l1 a1 f1 C1 N1 F1)).bind (AF k5 m1 i1))
  | 0, c, i1, _, _, _, _, _, _, _, _, _, _, _, _, _, _, _, _, hn, _, hi, _, _, _, _, _, _, _ => by omega
  | n + 1, c, i1, a1, P0, P1, j1, l1, L1, f1, K1, W1, C1, N1, F1, t, e, m1, js, hn, hc, hi1, hm, hf, hE, hSt, hF, ⟨f23, f27, f31, f32, f33⟩, hjs => by
    have hlen := hC.2.1
    have hd : d < 8 := by have := hP.1; omega
    have hm1 : 1800 ≤ m1 := by have := hP.2.2.2.2.2.1; omega
    have hP1 := Pre_ex (m1 := m1 + 1) hP hE (by omega) hm hf
    have n160 : ¬ (160 : Int32) ≤ nI c := nI_ge (a := c) (b := 160) (by omega) n31
    have hl1 : l1 + 1 < 160 := by have := hP1.2.2.1; have := hP1.2.2.2.1; omega
    have hj1 : j1 + 1 < 160 := by have := hP1.2.2.1; omega
    rw [Re_ands_b22, if_neg n160, r_nx hC hi1, Option.bind_some]
    by_cases hb : σ0 16 i1 = 38
    · have ht := hE.1.2.2.2.2.2.2
      have q : pmIn (nI d) 8 = true := pmIn_nI hd (by omega)
      have q2 : (nI d).toNatClampNeg = d := nI_clamp (by omega)
      have hgo : Mo_goOn_b283 (σ0 16 i1) (nI d) (mkM τ0 i1 0 g (nI d) l1 a1 f1 C1 N1 F1) = if nI (t + 1) = 2 then Mo_goOn_b309 (nI d) (mkM τ0 i1 0 g (nI d) l1 a1 f1 C1 N1 F1) else (Mo_wrongType (nI i) (mkM τ0 i1 0 g (nI d) l1 a1 f1 C1 N1 F1)).bind fun q => Mo_goOn_b309 (nI d) q := by
        unfold Mo_goOn_b283
        simp only [hb, not_true_eq_false, if_false, q, q2, if_true, M_F (c := 32) (by omega), M_F (c := 31) (by omega), f31, f32]
      rw [if_neg (fun z => z hb), hgo]
      unfold Re_branch
      rcases (show t = 0 ∨ t = 1 by omega) with rfl | rfl
      · have nz : (-1000 - nI i : Int32) ≠ 0 := ne_sub (by have := hP.2.1; omega) (Or.inr rfl)
        have hdd : Dead p σ0 len true (-1000 - nI i) (mkX p σ0 i1 (-1000 - nI i) a1 P0 j1 L1 f1 K1 W1) := Or.inl ⟨nz, _, _, _, _, _, _, _, _, by omega, by omega, rfl⟩
        obtain ⟨x, σ2, e2, h2⟩ := dd_br hC hdd (v := 38) (by decide) 38
        obtain ⟨ty, σ3, e3, h3⟩ := hD (nI d) (kn ||| P1) true _ σ2 h2
        obtain ⟨σ4, e4, h4⟩ := A_tail (rc := rc) hC h3 (n := n) (c := c) (by omega) (by omega) (nI d) kn (nI i) P1 ty (σ2 15 3) x
        rw [r_lkN _ (show ¬ nI 0 = 1 by decide), Option.bind_some, e2, Option.bind_some, Option.bind_some]
        show ∃ ty1 σ1, ((rc 2 (nI d) (kn ||| P1) σ2).bind fun q67 => _) = some (ty1, σ1) ∧ _
        rw [e3, Option.bind_some]
        rw [if_neg (by decide), M_wt, Option.bind_some, M_309 hd (by omega), Option.bind_some]
        obtain ⟨m4, rfl⟩ : ∃ q, m1 = q + 1 := ⟨m1 - 1, by omega⟩
        exact ⟨ty, σ4, e4, Or.inl (outR_i (dd_w h4) (by omega) (AF_ref i1 nz))⟩
      · rw [r_lk _ (show nI 1 = 1 from rfl), Option.bind_some, r_br hC hi1 hb (by omega), Option.bind_some, Option.bind_some, if_pos (show nI (1 + 1) = 2 from rfl), M_309 hd (by omega), Option.bind_some, AF_sn hC hi1 (Or.inr (Or.inr (Or.inr (Or.inr (Or.inr (Or.inl hb))))))]
        obtain ⟨G, hG, e1⟩ := L_1 (τ0 := τ0) (k5 := k5) (i := i1 + 1) (g := g) (l := l1 + 1) (a := a1) (f := f1) (C := upR1 C1 l1 1) (N := upR1 N1 l1 (F1 34 d)) (F := mput (mput F1 34 d (nI l1)) 30 d 1) (m := m1) hd (by omega)
        rw [e1]
        have hl0 : l ≤ l1 := hSt.1.1
        have hlow : ∀ k, k < l → N1 k = N k := fun k hk => by
          have := (hE.2.2.2.2.2.2.2 k hk).2
          rw [pt_ne (fun z => by have := Lk_mem js _ _ hjs k z; omega)] at this
          exact this
        have hjs2 : Lk (upR1 N1 l1 (F1 34 d)) l (l1 + 1) (nI l1) (l1 :: js) := ⟨rfl, hl0, by omega, by
          rw [up_eq]
          exact Lk_cg js _ _ hjs (fun k _ hk => up_ne (by omega))⟩
        have hK2 : Kn (mput (mput F1 34 d (nI l1)) 30 d 1) d (kn ||| P1) := by
          refine ⟨d, Nat.le_refl _, ?_, fun u a b => by omega, ?_⟩
          · rw [mput_ne (by omega), mput_ne (by omega), hF 14 d (by omega) (by omega)]
            exact h14
          · rw [mput_eq, if_neg (by decide), mput_ne (by omega), mput_ne (by omega), mput_ne (by omega), mput_ne (by omega), f33, hF 40 d (by omega) (by omega), h40]
        have hP3 : Pre len d (i1 + 1) a1 (j1 + 1) (l1 + 1) m1 f1 := by
          obtain ⟨z1, z2, z3, z4, z5, z6, z7⟩ := hP1
          exact ⟨z1, hi1, by omega, by omega, z5, by omega, z7⟩
        have hch : Chs (upR1 N1 l1 (F1 34 d)) (mput (mput F1 34 d (nI l1)) 30 d 1) d (l1 + 1) := by
          refine ⟨l, l1 :: js, ks, by omega, ?_, ?_⟩
          · rw [mput_ne (by omega), mput_eq]
            exact hjs2
          · rw [mput_ne (by omega), mput_ne (by omega), hF 39 d (by omega) (by omega)]
            exact Lk_cg ks _ _ hks (fun k _ hk => by rw [up_ne (by omega)]; exact hlow k hk)
        obtain ⟨ty, σ1, e2, o⟩ := hS (kn ||| P1) (i1 + 1) a1 P0 (j1 + 1) (L1 ||| Po_bitsOf 38) f1 (upR1 K1 j1 38) (upR1 W1 j1 0) (l1 + 1) (upR1 C1 l1 1) (upR1 N1 l1 (F1 34 d)) (mput (mput F1 34 d (nI l1)) 30 d 1) g m1 FU G hP3 (by unfold FU; omega) (by rw [mput_ne (by omega), mput_ne (by omega), hF 14 d (by omega) (by omega)]; exact h14) (by rw [mput_ne (by omega), mput_ne (by omega)]; exact f23) (by rw [mput_ne (by omega), mput_ne (by omega)]; exact f27) hK2 hch hG
        show ∃ ty1 σ3, ((rc 2 (nI d) (kn ||| P1) (mkX p σ0 (i1 + 1) 0 a1 P0 (j1 + 1) (L1 ||| Po_bitsOf 38) f1 (upR1 K1 j1 38) (upR1 W1 j1 0))).bind fun q67 => (Re_lookAtEnded q67.1 1 (nI (i1 + 1)) q67.2).bind fun q78 => if isPo (ix (q78 15 2)) then (Po_landHere (ix (q78 15 2)) (nI j1) q78).bind fun q96 => Re_ands_b22 rc n (nI d) kn (nI i) q67.1 (P1 ||| (q78 15 6)) (nI c + 1) q96 else none) = some (ty1, σ3) ∧ _
        rw [e2, Option.bind_some]
        rcases o with ⟨ρ, τ1, o1, o2, o3⟩ | ⟨i2, a2, P2, j2, l2, L2, f2, K2, W2, C2, N2, F2, t2, e3, m3, rfl, rfl, b1, b2, b4, b5, b6, ⟨g23, g27⟩, b8⟩
        · obtain ⟨σ4, e4, h4⟩ := A_tail (rc := rc) hC o1 (n := n) (c := c) (by omega) (by omega) (nI d) kn (nI i) P1 ty (nI (i1 + 1)) (nI j1)
          exact ⟨ty, σ4, e4, Or.inl ⟨ρ, τ1, dd_w h4, o2, o3⟩⟩
        · have hP2 := Pre_ex (m1 := m3 + 1) hP3 b5 (by omega) b2 b4
          have hl2 : l2 + 1 < 160 := by have := hP2.2.2.1; have := hP2.2.2.2.1; omega
          have hj2 : j2 < 160 := by have := hP2.2.2.1; omega
          have hj12 := b5.1.2.1
          have hl12 : l1 + 1 ≤ l2 := b5.2.2.2.2.1.1
          have ht2 := b5.1.2.2.2.2.2.2
          have g30 : ¬ F2 30 d = 0 := by
            rw [b6 30 d (by omega) (by omega), mput_eq]
            decide
          have g33 : F2 33 d = P1 := by rw [b6 33 d (by omega) (by omega), mput_ne (by omega), mput_ne (by omega), f33]
          have g34 : F2 34 d = nI l1 := by rw [b6 34 d (by omega) (by omega), mput_ne (by omega), mput_eq]
          have hfr : Fr 23 34 d F F2 := by
            intro c u hu hc
            rw [b6 c u hu (by omega), mput_ne (by omega), mput_ne (by omega)]
            exact hF c u hu hc
          have hjs3 : Lk N2 l l2 (F2 34 d) (l1 :: js) := by
            rw [g34]
            exact Lk_mono hl12 _ (Lk_cg _ _ _ hjs2 (fun k _ hk => (b5.2.2.2.2.2.2.2 k hk).2))
          have hlow2 : ∀ k, k < l → N2 k = N k := fun k hk => by
            rw [(b5.2.2.2.2.2.2.2 k (by omega)).2, up_ne (by omega)]
            exact hlow k hk
          rw [b8, M_222b hd g30]
          rcases (show t2 = 0 ∨ t2 = 1 by omega) with rfl | rfl
          · have nz : (-1000 - nI (i1 + 1) : Int32) ≠ 0 := ne_sub (by omega) (Or.inr rfl)
            have hdd : Dead p σ0 len true (-1000 - nI (i1 + 1)) (mkX p σ0 i2 (-1000 - nI (i1 + 1)) a2 P2 j2 L2 f2 K2 W2) := Or.inl ⟨nz, _, _, _, _, _, _, _, _, by omega, by omega, rfl⟩
            obtain ⟨σ4, e4, h4⟩ := A_tail (rc := rc) hC hdd (n := n) (c := c) (by omega) (by omega) (nI d) kn (nI i) P1 (nI 0) (nI (i1 + 1)) (nI j1)
            rw [dd_le hC hdd, Option.bind_some] at e4
            have hch2 : Chs N2 F2 d l2 := by
              refine ⟨l, l1 :: js, ks, by omega, hjs3, ?_⟩
              rw [hfr 39 d (by omega) (by omega)]
              exact Lk_cg ks _ _ hks (fun k _ hk => hlow2 k hk)
            rw [r_le hC b1, r_lkN _ (show ¬ nI 0 = 1 by decide), Option.bind_some, if_neg (show ¬ nI (0 + 1) = 2 by decide), M_wt, Option.bind_some]
            obtain ⟨τ1, u1, i3, g3, top3, l3, a3, f3, C3, N3, F3, u2, rfl⟩ := d242 (τ0 := τ0) (i := i2) (g := g) (top := nI d) (a := a2) (f := f2) (C := C2) (b := σ0 16 i2) nz hd (by omega) hch2 P2
            rw [u1, Option.bind_some]
            obtain ⟨m5, rfl⟩ : ∃ q, m3 = q + 1 := ⟨m3 - 1, by omega⟩
            exact ⟨_, σ4, e4, Or.inl (outR_i (dd_w h4) u2 (AF_ref i2 nz))⟩
          · rw [r_le hC b1, r_lk _ (show nI 1 = 1 from rfl), Option.bind_some, if_pos (show nI (1 + 1) = 2 from rfl), M_242 hd, g33]
            show ∃ ty1 σ3, (if isPo (ix (mkX p σ0 i2 0 a2 P2 j2 L2 f2 K2 W2 15 2)) then (Po_landHere (ix (mkX p σ0 i2 0 a2 P2 j2 L2 f2 K2 W2 15 2)) (nI j1) (mkX p σ0 i2 0 a2 P2 j2 L2 f2 K2 W2)).bind fun q96 => Re_ands_b22 rc n (nI d) kn (nI i) (nI 1) (P1 ||| (mkX p σ0 i2 0 a2 P2 j2 L2 f2 K2 W2 15 6)) (nI c + 1) q96 else none) = some (ty1, σ3) ∧ _
            rw [ct_ix hC, if_pos hC.1, p_lh hC.1 (by omega) (by omega), Option.bind_some, x_prv, nI_1]
            have hst : CSt 1 C2 N2 (l1 :: js) l l2 (a2 - a) (dAnd e e3) := by
              have := CSt_next (c := 1) (C := C2) (N := N2) (js := l1 :: js) (l0 := l) (lm := l1 + 1) (l := l2) (a := a1 - a) (b := a2 - a1) (e1 := e) (e2 := e3) (Or.inl rfl) (fun k hk => Lk_mem _ _ _ hjs2 k hk) (fun T => hSt.2 C2 N2 (fun q _ hq => by
                rw [(b5.2.2.2.2.2.2.2 q (by omega)).1, (b5.2.2.2.2.2.2.2 q (by omega)).2, up_ne (by omega), up_ne (by omega)]
                exact ⟨rfl, rfl⟩) (by rw [(b5.2.2.2.2.2.2.2 l1 (by omega)).1, up_eq]) T) b5.2.2.2.2.1
              rw [dJ_and] at this
              rw [show a2 - a = (a1 - a) + (a2 - a1) by have := hE.1.2.2.2.2.1; have := b5.1.2.2.2.2.1; omega]
              exact this
            refine A_loop hC hS hD hP h14 h40 hks n (c + 1) i2 a2 P2 (P1 ||| P2) j2 l2 L2 f2 K2 _ C2 N2 _ 1 (dAnd e e3) m3 (l1 :: js) (by have := b5.1.1; omega) (by have := b5.1.1; omega) b1 (by omega) b4 (Ex_jn (fun _ _ _ _ _ _ _ _ _ h1 h2 h3 h4 => SegX_and h1 h2 h3 h4) (fun _ _ _ => DepE_and) (fun _ _ => Tr_and) hE b5 hst.1 (fun q hq => ?_)) hst ?_ ⟨?_, ?_, ?_, ?_, mput_eq⟩ ?_
            · rw [pt_ne (fun z => by have := Lk_mem _ _ _ hjs3 q z; omega)]
              exact hlow2 q hq
            · intro c u hu hc
              rw [mput_ne (by omega)]
              exact hfr c u hu hc
            · rw [mput_ne (by omega)]; exact g23
            · rw [mput_ne (by omega)]; exact g27
            · rw [mput_ne (by omega), b6 31 d (by omega) (by omega), mput_ne (by omega), mput_ne (by omega)]
              exact f31
            · rw [mput_ne (by omega), b6 32 d (by omega) (by omega), mput_ne (by omega), mput_ne (by omega)]
              exact f32
            · rw [mput_ne (by omega)]; exact hjs3
    · rw [if_pos hb, M_283 hb]
      unfold Re_ands_b105
      rw [x_p6]
      exact ⟨nI t, _, rfl, Or.inr ⟨i1, a1, P1, j1, l1, L1, f1, K1, W1, C1, N1, F1, t, e, m1, js, rfl, rfl, hi1, hm, hf, hE, hF, ⟨f23, f27, f31, f32, f33⟩, hjs, hb, rfl⟩⟩
theorem T_and (hC : CT p σ0 τ0 len) (hS : CmpP p σ0 τ0 len k5 (rc 2) d) (hD : DeadP p σ0 len rc 2) : AndP p σ0 τ0 len k5 (Re_ands rc) d := by
  intro kn i a P j L f K W l C N F g m nf G ks hP hnf h14 h23 h27 h30 h34 h40 hks hG
  have hlen := hC.2.1
  have hd : d < 8 := by have := hP.1; omega
  have hK : Kn F d kn := ⟨d, Nat.le_refl _, h14, fun u a b => by omega, by rw [if_pos h30, h40]; exact Int32.or_zero⟩
  obtain ⟨ty, σ1, e1, o⟩ := hS kn i a P j L f K W l C N F g m nf G hP hnf h14 h23 h27 hK ⟨l, [], ks, Nat.le_refl _, h34, hks⟩ hG
  unfold Re_ands
  rw [e1, Option.bind_some]
  show ∃ ty1 σ2, Re_ands_b22 rc FU (nI d) kn (nI i) ty (σ1 15 6) (nI 0) σ1 = some (ty1, σ2) ∧ _
  rcases o with ⟨ρ, τ1, o1, o2, o3⟩ | ⟨i2, a2, P2, j2, l2, L2, f2, K2, W2, C2, N2, F2, t2, e3, m3, rfl, rfl, b1, b2, b4, b5, b6, ⟨g23, g27⟩, b8⟩
  · exact ⟨ty, _, A_dead hC o1 (by unfold FU; omega) (by omega) _ _ _ _ _, Or.inl ⟨ρ, τ1, dd_w (dd_p6 o1 _), o2, o3⟩⟩
  · have g30 : F2 30 d = 0 := by rw [b6 30 d (by omega) (by omega)]; exact h30
    rw [b8, M_222a hd g30, x_prv]
    refine A_loop hC hS hD hP h14 h40 hks FU 0 i2 a2 P2 P2 j2 l2 L2 f2 K2 W2 C2 N2 _ t2 e3 m3 [] (by unfold FU; omega) (by have := b5.1.1; omega) b1 b2 b4 (by rw [pt_nil]; exact b5) (CSt_first (Or.inl rfl) b5.2.2.2.2.1) ?_ ⟨?_, ?_, mput_eq, ?_, ?_⟩ ?_
    · intro c u hu hc
      rw [mput_ne (by omega), mput_ne (by omega), mput_ne (by omega)]
      exact b6 c u hu (by omega)
    · rw [mput_ne (by omega), mput_ne (by omega), mput_ne (by omega)]; exact g23
    · rw [mput_ne (by omega), mput_ne (by omega), mput_ne (by omega)]; exact g27
    · rw [mput_ne (by omega), mput_ne (by omega), mput_eq]
    · rw [mput_ne (by omega), mput_eq]
    · rw [mput_ne (by omega), mput_ne (by omega), mput_ne (by omega), b6 34 d (by omega) (by omega)]
      exact h34
end
