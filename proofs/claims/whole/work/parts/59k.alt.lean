theorem Lk_low {N : Nat → Int32} {u0 : Nat} : ∀ (js : List Nat) (u : Nat) (h : Int32), Lk N u0 u h js → Lk N 0 u h js
  | [], _, _, e => e
  | q :: js, _, _, ⟨a, _, c, d⟩ => ⟨a, Nat.zero_le _, c, Lk_low js q _ d⟩
def OutB (p : Nat) (σ0 τ0 : Mem) (len : Nat) (k5 : Int32 → Mem → Option Mem) (d m i a j l : Nat) (L : Int32) (K W C N : Nat → Int32) (F : Mem) (g ty : Int32) (σ1 : Mem) (E : Option Mem) : Prop :=
  OutR p σ0 τ0 len k5 false σ1 E ∨ ∃ i1 a1 P1 j1 l1 L1 f1 K1 W1 C1 N1 F1 t e m1, ty = nI t ∧ σ1 = mkX p σ0 i1 0 a1 P1 j1 L1 f1 K1 W1 ∧ i1 < len ∧ m + i ≤ m1 + 1 + i1 ∧ (f1 = 0 ∨ f1 = 1) ∧ Ex i a j l L K W C N i1 a1 j1 l1 L1 K1 W1 C1 N1 t e ∧ Fr 23 39 d F F1 ∧ (F1 36 d = nI i ∧ F1 37 d = nI (t + 1) ∧ F1 38 d = P1) ∧ E = (Mo_endRow (nI d) (σ0 16 i1) (mkM τ0 i1 0 g (nI d) l1 a1 f1 C1 N1 F1)).bind (AF k5 m1 i1)
def AltP (p : Nat) (σ0 τ0 : Mem) (len : Nat) (k5 : Int32 → Mem → Option Mem) (fn : Int32 → Int32 → Mem → Option (Int32 × Mem)) (d : Nat) : Prop :=
  ∀ kn i a P j L f K W l C N F g m nf G, Pre len d i a j l m f → 2050 ≤ nf + d → ¬ F 14 d = 4 → F 23 d = 0 → F 27 d = 0 → F 30 d = 0 → F 34 d = -1 → F 35 d = 0 → F 39 d = -1 → F 40 d = kn → Gd τ0 k5 m i G → ∃ ty σ1, fn (nI d) kn (mkX p σ0 i 0 a P j L f K W) = some (ty, σ1) ∧ OutB p σ0 τ0 len k5 d m i a j l L K W C N F g ty σ1 ((Mo_readTerm_b2 nf 1 (mkM τ0 i 0 g (nI d) l a f C N F)).bind G)
section
variable {F : Mem} {d : Nat}
theorem eF1_ne {c u : Nat} (h : ¬ (u = d ∧ (c = 34 ∨ c = 30))) : eF1 F d c u = F c u := by
  unfold eF1
  rw [mput_ne (by omega), mput_ne (by omega)]
theorem eF1_30 : eF1 F d 30 d = 0 := mput_eq
theorem eF1_34 : eF1 F d 34 d = -1 := by
  unfold eF1
  rw [mput_ne (by omega), mput_eq]
theorem eF3_ne {c u : Nat} (h : ¬ (u = d ∧ c = 38)) : eF3 F d c u = eF1 F d c u := by
  unfold eF3
  rw [mput_ne (by omega)]
theorem eF2_ne {c u : Nat} (h : ¬ (u = d ∧ (c = 36 ∨ c = 37 ∨ c = 38))) : eF2 F d c u = eF1 F d c u := by
  unfold eF2
  rw [mput_ne (by omega), mput_ne (by omega), mput_ne (by omega)]
end
section
variable {p : Nat} {σ0 τ0 : Mem} {len : Nat} {k5 : Int32 → Mem → Option Mem} {rc : Nat → Int32 → Int32 → Mem → Option (Int32 × Mem)} {d : Nat}
theorem B_dead (hC : CT p σ0 τ0 len) {b : Bool} {ρ : Int32} {σ : Mem} (h : Dead p σ0 len b ρ σ) {n c : Nat} (hn : 1 ≤ n) (hc : c < 160) (x y v3 v4 v5 : Int32) : Re_alternatives_b22 rc n x y v3 v4 v5 (nI c) σ = some (v4, mput σ 15 6 v5) := by
  obtain ⟨n, rfl⟩ : ∃ q, n = q + 1 := ⟨n - 1, by omega⟩
  rw [Re_alternatives_b22, if_neg (show ¬ (160 : Int32) ≤ nI c from nI_ge (a := c) (b := 160) hc n31), dd_nx hC h, Option.bind_some, if_pos (by decide)]
  rfl
theorem B_tail (hC : CT p σ0 τ0 len) {b : Bool} {ρ : Int32} {σ : Mem} (h : Dead p σ0 len b ρ σ) {n c : Nat} (hn : 1 ≤ n) (hc : c + 1 < 160) (x y v3 v5 ty v r : Int32) : ∃ σ1, (Re_lookAtEnded ty 1 v σ).bind (fun q78 => if isPo (ix (q78 15 2)) then (Po_landHere (ix (q78 15 2)) r q78).bind fun q96 => Re_alternatives_b22 rc n x y v3 ty (v5 &&& (q78 15 6)) (nI c + 1) q96 else none) = some (ty, σ1) ∧ Dead p σ0 len b ρ σ1 := by
  obtain ⟨σ2, e2, h2⟩ := dd_lh hC h r
  refine ⟨_, ?_, dd_p6 h2 (v5 &&& (σ 15 6))⟩
  rw [dd_le hC h, Option.bind_some, dd_ix hC h, if_pos hC.1, e2, Option.bind_some, nI_1]
  exact B_dead hC h2 hn hc x y v3 ty _
theorem B_loop (hC : CT p σ0 τ0 len) (hS : AndP p σ0 τ0 len k5 (rc 1) d) (hD : DeadP p σ0 len rc 1) {kn : Int32} {i a j l : Nat} {L : Int32} {K W C N : Nat → Int32} {F : Mem} {g : Int32} {m : Nat} {f : Int32} (hP : Pre len d i a j l m f) (h14 : ¬ F 14 d = 4) (h40 : F 40 d = kn) :
    ∀ (n c i1 a1 : Nat) (P0 P1 : Int32) (j1 l1 : Nat) (L1 f1 : Int32) (K1 W1 C1 N1 : Nat → Int32) (F1 : Mem) (t : Nat) (e : Den) (m1 : Nat) (ks : List Nat), len < n + i1 → c < i1 → i1 < len → m + i ≤ m1 + 1 + i1 → (f1 = 0 ∨ f1 = 1) → Ex i a j l L K W C N i1 a1 j1 l1 L1 K1 W1 C1 (pt N1 ks (nI l1)) t e → CSt 2 C1 N1 ks l l1 (a1 - a) e → Fr 23 39 d F F1 → (F1 23 d = 0 ∧ F1 27 d = 0 ∧ F1 30 d = 0 ∧ F1 34 d = -1 ∧ F1 36 d = nI i ∧ F1 37 d = nI (t + 1) ∧ F1 38 d = P1) → Lk N1 l l1 (F1 39 d) ks →
      ∃ ty σ1, Re_alternatives_b22 rc n (nI d) kn (nI i) (nI t) P1 (nI c) (mkX p σ0 i1 0 a1 P0 j1 L1 f1 K1 W1) = some (ty, σ1) ∧ OutB p σ0 τ0 len k5 d m i a j l L K W C N F g ty σ1 ((Mo_endAnd_b111 (nI d) (σ0 16 i1) (mkM τ0 i1 0 g (nI d) l1 a1 f1 C1 N1 F1)).bind (AF k5 m1 i1))
  | 0, c, i1, _, _, _, _, _, _, _, _, _, _, _, _, _, _, _, _, hn, _, hi, _, _, _, _, _, _, _ => by omega
  | n + 1, c, i1, a1, P0, P1, j1, l1, L1, f1, K1, W1, C1, N1, F1, t, e, m1, ks, hn, hc, hi1, hm, hf, hE, hSt, hF, ⟨f23, f27, f30, f34, f36, f37, f38⟩, hks => by
    have hlen := hC.2.1
    have hd : d < 8 := by have := hP.1; omega
    have hm1 : 1800 ≤ m1 := by have := hP.2.2.2.2.2.1; omega
    have hP1 := Pre_ex (m1 := m1 + 1) hP hE (by omega) hm hf
    have n160 : ¬ (160 : Int32) ≤ nI c := nI_ge (a := c) (b := 160) (by omega) n31
    have hl1 : l1 + 1 < 160 := by have := hP1.2.2.1; have := hP1.2.2.2.1; omega
    have hj1 : j1 + 1 < 160 := by have := hP1.2.2.1; omega
    rw [Re_alternatives_b22, if_neg n160, r_nx hC hi1, Option.bind_some]
    by_cases hb : σ0 16 i1 = 124
    · have ht := hE.1.2.2.2.2.2.2
      have q : pmIn (nI d) 8 = true := pmIn_nI hd (by omega)
      have q2 : (nI d).toNatClampNeg = d := nI_clamp (by omega)
      have hgo : Mo_endAnd_b111 (nI d) (σ0 16 i1) (mkM τ0 i1 0 g (nI d) l1 a1 f1 C1 N1 F1) = if nI (t + 1) = 2 then Mo_endAnd_b137 (nI d) (mkM τ0 i1 0 g (nI d) l1 a1 f1 C1 N1 F1) else (Mo_wrongType (nI i) (mkM τ0 i1 0 g (nI d) l1 a1 f1 C1 N1 F1)).bind fun q => Mo_endAnd_b137 (nI d) q := by
        unfold Mo_endAnd_b111
        simp only [hb, not_true_eq_false, if_false, q, q2, if_true, M_F (c := 37) (by omega), M_F (c := 36) (by omega), f36, f37]
      rw [if_neg (fun z => z hb), hgo]
      unfold Re_branch
      rcases (show t = 0 ∨ t = 1 by omega) with rfl | rfl
      · have nz : (-1000 - nI i : Int32) ≠ 0 := ne_sub (by have := hP.2.1; omega) (Or.inr rfl)
        have hdd : Dead p σ0 len true (-1000 - nI i) (mkX p σ0 i1 (-1000 - nI i) a1 P0 j1 L1 f1 K1 W1) := Or.inl ⟨nz, _, _, _, _, _, _, _, _, by omega, by omega, rfl⟩
        obtain ⟨x, σ2, e2, h2⟩ := dd_br hC hdd (v := 124) (by decide) 124
        obtain ⟨ty, σ3, e3, h3⟩ := hD (nI d) kn true _ σ2 h2
        obtain ⟨σ4, e4, h4⟩ := B_tail (rc := rc) hC h3 (n := n) (c := c) (by omega) (by omega) (nI d) kn (nI i) P1 ty (σ2 15 3) x
        rw [r_lkN _ (show ¬ nI 0 = 1 by decide), Option.bind_some, e2, Option.bind_some, Option.bind_some]
        show ∃ ty1 σ1, ((rc 1 (nI d) kn σ2).bind fun q67 => _) = some (ty1, σ1) ∧ _
        rw [e3, Option.bind_some]
        rw [if_neg (by decide), M_wt, Option.bind_some, M_137 hd (by omega), Option.bind_some]
        obtain ⟨m4, rfl⟩ : ∃ q, m1 = q + 1 := ⟨m1 - 1, by omega⟩
        exact ⟨ty, σ4, e4, Or.inl (outR_i (dd_w h4) (by omega) (AF_ref i1 nz))⟩
      · rw [r_lk _ (show nI 1 = 1 from rfl), Option.bind_some, r_br hC hi1 hb (by omega), Option.bind_some, Option.bind_some, if_pos (show nI (1 + 1) = 2 from rfl), M_137 hd (by omega), Option.bind_some, AF_sn hC hi1 (Or.inr (Or.inr (Or.inr (Or.inr (Or.inr (Or.inr hb))))))]
        obtain ⟨G, hG, e1⟩ := L_1 (τ0 := τ0) (k5 := k5) (i := i1 + 1) (g := g) (l := l1 + 1) (a := a1) (f := f1) (C := upR1 C1 l1 2) (N := upR1 N1 l1 (F1 39 d)) (F := mput (mput F1 39 d (nI l1)) 35 d 1) (m := m1) hd (by omega)
        rw [e1]
        have hl0 : l ≤ l1 := hSt.1.1
        have hlow : ∀ k, k < l → N1 k = N k := fun k hk => by
          have := (hE.2.2.2.2.2.2.2 k hk).2
          rw [pt_ne (fun z => by have := Lk_mem ks _ _ hks k z; omega)] at this
          exact this
        have hks2 : Lk (upR1 N1 l1 (F1 39 d)) l (l1 + 1) (nI l1) (l1 :: ks) := ⟨rfl, hl0, by omega, by
          rw [up_eq]
          exact Lk_cg ks _ _ hks (fun k _ hk => up_ne (by omega))⟩
        have hP3 : Pre len d (i1 + 1) a1 (j1 + 1) (l1 + 1) m1 f1 := by
          obtain ⟨z1, z2, z3, z4, z5, z6, z7⟩ := hP1
          exact ⟨z1, hi1, by omega, by omega, z5, by omega, z7⟩
        have hm2 : ∀ c, c ≠ 39 → c ≠ 35 → mput (mput F1 39 d (nI l1)) 35 d 1 c d = F1 c d := fun c h1 h2 => by rw [mput_ne (by omega), mput_ne (by omega)]
        obtain ⟨ty, σ1, e2, o⟩ := hS kn (i1 + 1) a1 P0 (j1 + 1) (L1 ||| Po_bitsOf 124) f1 (upR1 K1 j1 124) (upR1 W1 j1 0) (l1 + 1) (upR1 C1 l1 2) (upR1 N1 l1 (F1 39 d)) (mput (mput F1 39 d (nI l1)) 35 d 1) g m1 FU G (l1 :: ks) hP3 (by unfold FU; omega) (by rw [hm2 14 (by omega) (by omega), hF 14 d (by omega) (by omega)]; exact h14) (by rw [hm2 23 (by omega) (by omega)]; exact f23) (by rw [hm2 27 (by omega) (by omega)]; exact f27) (by rw [hm2 30 (by omega) (by omega)]; exact f30) (by rw [hm2 34 (by omega) (by omega)]; exact f34) (by rw [hm2 40 (by omega) (by omega), hF 40 d (by omega) (by omega)]; exact h40) (by rw [mput_ne (by omega), mput_eq]; exact Lk_low _ _ _ hks2) hG
        show ∃ ty1 σ3, ((rc 1 (nI d) kn (mkX p σ0 (i1 + 1) 0 a1 P0 (j1 + 1) (L1 ||| Po_bitsOf 124) f1 (upR1 K1 j1 124) (upR1 W1 j1 0))).bind fun q67 => (Re_lookAtEnded q67.1 1 (nI (i1 + 1)) q67.2).bind fun q78 => if isPo (ix (q78 15 2)) then (Po_landHere (ix (q78 15 2)) (nI j1) q78).bind fun q96 => Re_alternatives_b22 rc n (nI d) kn (nI i) q67.1 (P1 &&& (q78 15 6)) (nI c + 1) q96 else none) = some (ty1, σ3) ∧ _
        rw [e2, Option.bind_some]
        rcases o with ⟨ρ, τ1, o1, o2, o3⟩ | ⟨i2, a2, P2, j2, l2, L2, f2, K2, W2, C2, N2, F2, t2, e3, m3, js, rfl, rfl, b1, b2, b4, b5, b6, ⟨g23, g27, g31, g32, g33⟩, hjs, b7, b8⟩
        · obtain ⟨σ4, e4, h4⟩ := B_tail (rc := rc) hC o1 (n := n) (c := c) (by omega) (by omega) (nI d) kn (nI i) P1 ty (nI (i1 + 1)) (nI j1)
          exact ⟨ty, σ4, e4, Or.inl ⟨ρ, τ1, dd_w h4, o2, o3⟩⟩
        · have hP2 := Pre_ex (m1 := m3 + 1) hP3 b5 (by omega) b2 b4
          have hl2 : l2 + 1 < 160 := by have := hP2.2.2.1; have := hP2.2.2.2.1; omega
          have hj2 : j2 < 160 := by have := hP2.2.2.1; omega
          have hj12 := b5.1.2.1
          have hl12 : l1 + 1 ≤ l2 := b5.2.2.2.2.1.1
          have ht2 := b5.1.2.2.2.2.2.2
          have g35 : ¬ F2 35 d = 0 := by
            rw [b6 35 d (by omega) (by omega), mput_eq]
            decide
          have g38 : F2 38 d = P1 := by rw [b6 38 d (by omega) (by omega), hm2 38 (by omega) (by omega), f38]
          have g39 : F2 39 d = nI l1 := by rw [b6 39 d (by omega) (by omega), mput_ne (by omega), mput_eq]
          have hfr : Fr 23 39 d F F2 := by
            intro c u hu hc
            rw [b6 c u hu (by omega), mput_ne (by omega), mput_ne (by omega)]
            exact hF c u hu hc
          have hks3 : Lk (pt N2 js (nI l2)) l l2 (F2 39 d) (l1 :: ks) := by
            rw [g39]
            exact Lk_mono hl12 _ (Lk_cg _ _ _ hks2 (fun k _ hk => (b5.2.2.2.2.2.2.2 k hk).2))
          have hlow2 : ∀ k, k < l → pt N2 js (nI l2) k = N k := fun k hk => by
            rw [(b5.2.2.2.2.2.2.2 k (by omega)).2, up_ne (by omega)]
            exact hlow k hk
          have e39 : eF3 F2 d 39 d = F2 39 d := by rw [eF3_ne (by omega), eF1_ne (by omega)]
          rw [b8, M_endAnd hd (by omega) hjs, if_neg g35, g31, g32]
          rcases (show t2 = 0 ∨ t2 = 1 by omega) with rfl | rfl
          · have nz : (-1000 - nI (i1 + 1) : Int32) ≠ 0 := ne_sub (by omega) (Or.inr rfl)
            have hdd : Dead p σ0 len true (-1000 - nI (i1 + 1)) (mkX p σ0 i2 (-1000 - nI (i1 + 1)) a2 P2 j2 L2 f2 K2 W2) := Or.inl ⟨nz, _, _, _, _, _, _, _, _, by omega, by omega, rfl⟩
            obtain ⟨σ4, e4, h4⟩ := B_tail (rc := rc) hC hdd (n := n) (c := c) (by omega) (by omega) (nI d) kn (nI i) P1 (nI 0) (nI (i1 + 1)) (nI j1)
            rw [dd_le hC hdd, Option.bind_some] at e4
            rw [r_le hC b1, r_lkN _ (show ¬ nI 0 = 1 by decide), Option.bind_some, if_neg (show ¬ nI (0 + 1) = 2 by decide), M_wt, Option.bind_some, M_53 hd]
            obtain ⟨τ1, u1, i3, g3, top3, l3, a3, f3, C3, N3, F3, u2, rfl⟩ := dA111 (τ0 := τ0) (i := i2) (g := g) (top := nI d) (l := l2) (a := a2) (f := f2) (C := C2) (N := pt N2 js (nI l2)) (F := eF3 F2 d) (b := σ0 16 i2) nz hd (by omega) (u := l2) (ks := l1 :: ks) (by omega) (by rw [e39]; exact Lk_low _ _ _ hks3)
            rw [u1, Option.bind_some]
            obtain ⟨m5, rfl⟩ : ∃ q, m3 = q + 1 := ⟨m3 - 1, by omega⟩
            exact ⟨_, σ4, e4, Or.inl (outR_i (dd_w h4) u2 (AF_ref i2 nz))⟩
          · rw [r_le hC b1, r_lk _ (show nI 1 = 1 from rfl), Option.bind_some, if_pos (show nI (1 + 1) = 2 from rfl), M_53 hd]
            show ∃ ty1 σ3, (if isPo (ix (mkX p σ0 i2 0 a2 P2 j2 L2 f2 K2 W2 15 2)) then (Po_landHere (ix (mkX p σ0 i2 0 a2 P2 j2 L2 f2 K2 W2 15 2)) (nI j1) (mkX p σ0 i2 0 a2 P2 j2 L2 f2 K2 W2)).bind fun q96 => Re_alternatives_b22 rc n (nI d) kn (nI i) (nI 1) (P1 &&& (mkX p σ0 i2 0 a2 P2 j2 L2 f2 K2 W2 15 6)) (nI c + 1) q96 else none) = some (ty1, σ3) ∧ _
            rw [ct_ix hC, if_pos hC.1, p_lh hC.1 (by omega) (by omega), Option.bind_some, x_prv, nI_1]
            have hst : CSt 2 C2 (pt N2 js (nI l2)) (l1 :: ks) l l2 (a2 - a) (dOr e e3) := by
              have := CSt_next (c := 2) (C := C2) (N := pt N2 js (nI l2)) (js := l1 :: ks) (l0 := l) (lm := l1 + 1) (l := l2) (a := a1 - a) (b := a2 - a1) (e1 := e) (e2 := e3) (Or.inr rfl) (fun k hk => Lk_mem _ _ _ hks2 k hk) (fun T => hSt.2 C2 (pt N2 js (nI l2)) (fun q _ hq => by
                rw [(b5.2.2.2.2.2.2.2 q (by omega)).1, (b5.2.2.2.2.2.2.2 q (by omega)).2, up_ne (by omega), up_ne (by omega)]
                exact ⟨rfl, rfl⟩) (by rw [(b5.2.2.2.2.2.2.2 l1 (by omega)).1, up_eq]) T) b5.2.2.2.2.1
              rw [dJ_or] at this
              rw [show a2 - a = (a1 - a) + (a2 - a1) by have := hE.1.2.2.2.2.1; have := b5.1.2.2.2.2.1; omega]
              exact this
            refine B_loop hC hS hD hP h14 h40 n (c + 1) i2 a2 P2 (P1 &&& P2) j2 l2 L2 f2 K2 _ C2 _ _ 1 (dOr e e3) m3 (l1 :: ks) (by have := b5.1.1; omega) (by have := b5.1.1; omega) b1 (by omega) b4 (Ex_jn (fun _ _ _ _ _ _ _ _ _ h1 h2 h3 h4 => SegX_or h1 h2 h3 h4) (fun _ _ _ => DepE_or) (fun _ _ => Tr_or) hE b5 hst.1 (fun q hq => ?_)) hst ?_ ⟨?_, ?_, ?_, ?_, ?_, ?_, ?_⟩ ?_
            · rw [pt_ne (fun z => by have := Lk_mem _ _ _ hks3 q z; omega)]
              exact hlow2 q hq
            · intro c u hu hc
              rw [eF3_ne (by omega), eF1_ne (by omega)]
              exact hfr c u hu hc
            · rw [eF3_ne (by omega), eF1_ne (by omega)]; exact g23
            · rw [eF3_ne (by omega), eF1_ne (by omega)]; exact g27
            · rw [eF3_ne (by omega)]; exact eF1_30
            · rw [eF3_ne (by omega)]; exact eF1_34
            · rw [eF3_ne (by omega), eF1_ne (by omega), b6 36 d (by omega) (by omega), hm2 36 (by omega) (by omega)]
              exact f36
            · rw [eF3_ne (by omega), eF1_ne (by omega), b6 37 d (by omega) (by omega), hm2 37 (by omega) (by omega)]
              exact f37
            · show eF3 F2 d 38 d = P1 &&& P2
              unfold eF3
              rw [mput_eq, g38, g33]
            · rw [e39]; exact hks3
    · rw [if_pos hb, M_111 hd (by omega) (Lk_low _ _ _ hks) hb]
      unfold Re_alternatives_b102
      rw [x_p6]
      refine ⟨nI t, _, rfl, Or.inr ⟨i1, a1, P1, j1, l1, L1, f1, K1, W1, C1, _, _, t, e, m1, rfl, rfl, hi1, hm, hf, hE, ?_, ⟨?_, ?_, ?_⟩, rfl⟩⟩
      · intro c u hu hc
        rw [mput_ne (by omega)]
        exact hF c u hu hc
      · rw [mput_ne (by omega)]; exact f36
      · rw [mput_ne (by omega)]; exact f37
      · rw [mput_ne (by omega)]; exact f38
theorem T_alt (hC : CT p σ0 τ0 len) (hS : AndP p σ0 τ0 len k5 (rc 1) d) (hD : DeadP p σ0 len rc 1) : AltP p σ0 τ0 len k5 (Re_alternatives rc) d := by
  intro kn i a P j L f K W l C N F g m nf G hP hnf h14 h23 h27 h30 h34 h35 h39 h40 hG
  have hlen := hC.2.1
  have hd : d < 8 := by have := hP.1; omega
  obtain ⟨ty, σ1, e1, o⟩ := hS kn i a P j L f K W l C N F g m nf G [] hP hnf h14 h23 h27 h30 h34 h40 h39 hG
  unfold Re_alternatives
  rw [e1, Option.bind_some]
  show ∃ ty1 σ2, Re_alternatives_b22 rc FU (nI d) kn (nI i) ty (σ1 15 6) (nI 0) σ1 = some (ty1, σ2) ∧ _
  rcases o with ⟨ρ, τ1, o1, o2, o3⟩ | ⟨i2, a2, P2, j2, l2, L2, f2, K2, W2, C2, N2, F2, t2, e3, m3, js, rfl, rfl, b1, b2, b4, b5, b6, ⟨g23, g27, g31, g32, g33⟩, hjs, b7, b8⟩
  · exact ⟨ty, _, B_dead hC o1 (by unfold FU; omega) (by omega) _ _ _ _ _, Or.inl ⟨ρ, τ1, dd_w (dd_p6 o1 _), o2, o3⟩⟩
  · have g35 : F2 35 d = 0 := by rw [b6 35 d (by omega) (by omega)]; exact h35
    have hl2 : l2 ≤ 160 := by
      have := Pre_ex (m1 := m3 + 1) hP b5 (by omega) b2 b4
      have h1 := this.2.2.1
      have h2 := this.2.2.2.1
      omega
    rw [b8, M_endAnd hd hl2 hjs, if_pos g35, x_prv]
    refine B_loop hC hS hD hP h14 h40 FU 0 i2 a2 P2 P2 j2 l2 L2 f2 K2 W2 C2 _ _ t2 e3 m3 [] (by unfold FU; omega) (by have := b5.1.1; omega) b1 b2 b4 (by rw [pt_nil]; exact b5) (CSt_first (Or.inr rfl) b5.2.2.2.2.1) ?_ ⟨?_, ?_, ?_, ?_, ?_, ?_, ?_⟩ ?_
    · intro c u hu hc
      rw [eF2_ne (by omega), eF1_ne (by omega)]
      exact b6 c u hu (by omega)
    · rw [eF2_ne (by omega), eF1_ne (by omega)]; exact g23
    · rw [eF2_ne (by omega), eF1_ne (by omega)]; exact g27
    · rw [eF2_ne (by omega)]; exact eF1_30
    · rw [eF2_ne (by omega)]; exact eF1_34
    · unfold eF2
      rw [mput_eq, g31]
    · unfold eF2
      rw [mput_ne (by omega), mput_ne (by omega), mput_eq, g32]
    · unfold eF2
      rw [mput_ne (by omega), mput_eq, g33]
    · rw [eF2_ne (by omega), eF1_ne (by omega), b6 39 d (by omega) (by omega)]
      exact h39
end
