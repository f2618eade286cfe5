theorem Ex_w {i0 i a j l : Nat} {L : Int32} {K W C N : Nat → Int32} {i1 i2 a1 j1 l1 : Nat} {L1 : Int32} {K1 W1 C1 N1 : Nat → Int32} {t : Nat} {e : Den} (h : Ex i a j l L K W C N i1 a1 j1 l1 L1 K1 W1 C1 N1 t e) (h1 : i0 ≤ i) (h2 : i1 ≤ i2) : Ex i0 a j l L K W C N i2 a1 j1 l1 L1 K1 W1 C1 N1 t e := by
  obtain ⟨⟨n1, n2, n3, n4, n5, n6, n7⟩, r⟩ := h
  exact ⟨⟨by omega, n2, by omega, n4, n5, n6, n7⟩, r⟩
theorem Ex_not {i a j l : Nat} {L : Int32} {K W C N : Nat → Int32} {i1 a1 j1 l1 : Nat} {L1 : Int32} {K1 W1 C1 N1 : Nat → Int32} {e : Den} (h : Ex (i + 1) a j l L K W C N i1 a1 j1 l1 L1 K1 W1 C1 N1 1 e) : Ex i a j l L K W C N i1 a1 (j1 + 1) (l1 + 1) (L1 ||| Po_bitsOf 33) (upR1 K1 j1 33) (upR1 W1 j1 0) (upR1 C1 l1 33) (upR1 N1 l1 0) 1 (dNot e) := by
  obtain ⟨⟨n1, n2, n3, n4, n5, n6, n7⟩, ⟨x, hx⟩, d1, sx, sm, t1, k1, c1⟩ := h
  have hl := sm.1
  refine ⟨⟨by omega, by omega, by omega, by omega, n5, n6, n7⟩, ⟨x ||| Po_bitsOf 33, by rw [hx, or_as]⟩, DepE_not (DepE_up d1), SegX_not (SegX_cg sx (fun q b1 b2 => ?_)) up_eq, SegM_not (SegM_cg sm (fun q b1 b2 => ?_)) up_eq, fun _ => Tr_not (t1 rfl), fun q hq => ?_, fun q hq => ?_⟩
  · rw [up_ne (by omega), up_ne (by omega)]; exact ⟨rfl, rfl⟩
  · rw [up_ne (by omega), up_ne (by omega)]; exact ⟨rfl, rfl⟩
  · rw [up_ne (by omega), up_ne (by omega)]; exact k1 q hq
  · rw [up_ne (by omega), up_ne (by omega)]; exact c1 q hq
theorem pt1 (N : Nat → Int32) (q : Nat) (x : Int32) : pt N [q] x = upR1 N q x := by
  funext k
  unfold pt upR1
  by_cases h : k = q
  · rw [if_pos h, if_pos (by simp [h])]
  · rw [if_neg h, if_neg (by simp [h])]
theorem Ex_ch {i a j l : Nat} {L : Int32} {K W C N : Nat → Int32} {i1 a1 j1 l1 : Nat} {L1 x1 : Int32} {K1 W1 C1 N1 : Nat → Int32} {e1 : Den} {i2 a2 j2 l2 : Nat} {L2 x2 : Int32} {K2 W2 C2 N2 : Nat → Int32} {t : Nat} {e2 : Den} {i3 a3 j3 l3 : Nat} {L3 : Int32} {K3 W3 C3 N3 : Nat → Int32} {e3 : Den}
    (h1 : Ex (i + 1) a j l L K W C N i1 a1 j1 l1 L1 K1 W1 C1 N1 1 e1)
    (h2 : Ex (i1 + 1) a1 (j1 + 1) (l1 + 1) (L1 ||| x1) (upR1 K1 j1 91) (upR1 W1 j1 0) (upR1 C1 l1 3) (upR1 N1 l1 (-1)) i2 a2 j2 l2 L2 K2 W2 C2 N2 t e2)
    (h3 : Ex (i2 + 1) a2 (j2 + 1) (l2 + 1) (L2 ||| x2) (upR1 K2 j2 58) (upR1 (upR1 W2 j2 0) j1 (nI (j2 + 1))) (upR1 C2 l2 4) (upR1 (upR1 N2 l2 (-1)) l1 (nI (l2 + 1))) i3 a3 j3 l3 L3 K3 W3 C3 N3 t e3) :
    Ex i a j l L K W C N (i3 + 1) a3 j3 l3 L3 K3 (upR1 W3 j2 (nI j3)) C3 (upR1 N3 l2 (nI l3)) t (dCh e1 e2 e3) := by
  obtain ⟨⟨n1, n2, n3, n4, n5, n6, n7⟩, ⟨x, hx⟩, d1, sx1, sm1, t1, k1, c1⟩ := h1
  obtain ⟨⟨m1, m2, m3, m4, m5, m6, m7⟩, ⟨y, hy⟩, d2, sx2, sm2, t2, k2, c2⟩ := h2
  obtain ⟨⟨o1, o2, o3, o4, o5, o6, o7⟩, ⟨z, hz⟩, d3, sx3, sm3, t3, k3, c3⟩ := h3
  have hl : l ≤ l1 := sm1.1
  have hl2 : l1 + 1 ≤ l2 := sm2.1
  have hl3 : l2 + 1 ≤ l3 := sm3.1
  refine ⟨⟨by omega, by omega, by omega, by omega, by omega, by omega, o7⟩, ⟨x ||| x1 ||| y ||| x2 ||| z, by simp only [hz, hy, hx, or_as]⟩, ?_, ?_, ?_, fun e => Tr_ch (t2 e) (t3 e), fun q hq => ?_, fun q hq => ?_⟩
  · refine DepE_ch ?_ ?_ d3
    · rw [hz, hy]
      exact DepE_up (DepE_up (DepE_up (DepE_up d1)))
    · rw [hz]
      exact DepE_up (DepE_up d2)
  · rw [show a3 - a = (a1 - a) + (a2 - a1) + (a3 - a2) by omega]
    refine SegX_ch (SegX_cg sx1 (fun q b1 b2 => ?_)) ?_ ?_ (SegX_cg sx2 (fun q b1 b2 => ?_)) ?_ up_eq (SegX_cg sx3 (fun q b1 b2 => ?_))
    · rw [up_ne (by omega), (k3 q (by omega)).1, (k3 q (by omega)).2, up_ne (by omega), up_ne (by omega), up_ne (by omega), (k2 q (by omega)).1, (k2 q (by omega)).2, up_ne (by omega), up_ne (by omega)]
      exact ⟨rfl, rfl⟩
    · rw [(k3 j1 (by omega)).1, up_ne (by omega), (k2 j1 (by omega)).1, up_eq]
    · rw [up_ne (by omega), (k3 j1 (by omega)).2, up_eq]
    · rw [up_ne (by omega), (k3 q (by omega)).1, (k3 q (by omega)).2, up_ne (by omega), up_ne (by omega), up_ne (by omega)]
      exact ⟨rfl, rfl⟩
    · rw [(k3 j2 (by omega)).1, up_eq]
    · rw [up_ne (by omega)]
      exact ⟨rfl, rfl⟩
  · rw [show a3 - a = (a1 - a) + (a2 - a1) + (a3 - a2) by omega]
    refine SegM_ch (SegM_cg sm1 (fun q b1 b2 => ?_)) ?_ ?_ (SegM_cg sm2 (fun q b1 b2 => ?_)) ?_ up_eq (SegM_cg sm3 (fun q b1 b2 => ?_))
    · rw [up_ne (by omega), (c3 q (by omega)).1, (c3 q (by omega)).2, up_ne (by omega), up_ne (by omega), up_ne (by omega), (c2 q (by omega)).1, (c2 q (by omega)).2, up_ne (by omega), up_ne (by omega)]
      exact ⟨rfl, rfl⟩
    · rw [(c3 l1 (by omega)).1, up_ne (by omega), (c2 l1 (by omega)).1, up_eq]
    · rw [up_ne (by omega), (c3 l1 (by omega)).2, up_eq]
    · rw [up_ne (by omega), (c3 q (by omega)).1, (c3 q (by omega)).2, up_ne (by omega), up_ne (by omega), up_ne (by omega)]
      exact ⟨rfl, rfl⟩
    · rw [(c3 l2 (by omega)).1, up_eq]
    · rw [up_ne (by omega)]
      exact ⟨rfl, rfl⟩
  · rw [up_ne (by omega), (k3 q (by omega)).1, (k3 q (by omega)).2, up_ne (by omega), up_ne (by omega), up_ne (by omega), (k2 q (by omega)).1, (k2 q (by omega)).2, up_ne (by omega), up_ne (by omega)]
    exact k1 q hq
  · rw [up_ne (by omega), (c3 q (by omega)).1, (c3 q (by omega)).2, up_ne (by omega), up_ne (by omega), up_ne (by omega), (c2 q (by omega)).1, (c2 q (by omega)).2, up_ne (by omega), up_ne (by omega)]
    exact c1 q hq
section
variable {F : Mem} {d : Nat} {v : Int32}
theorem bR_ne {c u : Nat} (h : ¬ (u = d ∧ (c = 23 ∨ c = 27 ∨ c = 30 ∨ c = 34 ∨ c = 35 ∨ c = 39 ∨ c = 40))) : bR F d v c u = F c u := by
  unfold bR
  rw [mput_ne (by omega), mput_ne (by omega), mput_ne (by omega), mput_ne (by omega), mput_ne (by omega), mput_ne (by omega), mput_ne (by omega)]
theorem bR_at : bR F d v 23 d = 0 ∧ bR F d v 27 d = 0 ∧ bR F d v 30 d = 0 ∧ bR F d v 34 d = -1 ∧ bR F d v 35 d = 0 ∧ bR F d v 39 d = -1 ∧ bR F d v 40 d = v := by
  unfold bR
  refine ⟨?_, ?_, ?_, ?_, ?_, ?_, mput_eq⟩
  · rw [mput_ne (by omega), mput_ne (by omega), mput_ne (by omega), mput_ne (by omega), mput_ne (by omega), mput_ne (by omega), mput_eq]
  · rw [mput_ne (by omega), mput_ne (by omega), mput_ne (by omega), mput_ne (by omega), mput_ne (by omega), mput_eq]
  · rw [mput_ne (by omega), mput_ne (by omega), mput_ne (by omega), mput_ne (by omega), mput_eq]
  · rw [mput_ne (by omega), mput_ne (by omega), mput_ne (by omega), mput_eq]
  · rw [mput_ne (by omega), mput_ne (by omega), mput_eq]
  · rw [mput_ne (by omega), mput_eq]
theorem oF_ne {s : Int32} {i c u : Nat} (h : ¬ (u = d ∧ (c = 14 ∨ c = 15 ∨ c = 16))) : oF F d s i c u = F c u := by
  unfold oF
  rw [mput_ne (by omega), mput_ne (by omega), mput_ne (by omega)]
theorem oF_at {s : Int32} {i : Nat} : oF F d s i 14 d = s ∧ oF F d s i 15 d = nI i ∧ oF F d s i 16 d = 0 := by
  unfold oF
  refine ⟨?_, ?_, mput_eq⟩
  · rw [mput_ne (by omega), mput_ne (by omega), mput_eq]
  · rw [mput_ne (by omega), mput_eq]
end
theorem Gd_up {τ0 : Mem} {k5 : Int32 → Mem → Option Mem} {m i i1 : Nat} {G : Mem → Option Mem} (h : Gd τ0 k5 m i G) (hi : i ≤ i1) : Gd τ0 k5 m i1 G := fun i2 ρ g d l a f C N F a1 a2 a3 => h i2 ρ g d l a f C N F (by omega) a2 a3
theorem Pre_d {len d i a j l m : Nat} {f : Int32} (h : Pre len d i a j l m f) (hi : i < len) (hd : d < 6) : Pre len (d + 1) (i + 1) a j l m f := by
  obtain ⟨a1, a2, a3, a4, a5, a6, a7⟩ := h
  exact ⟨by omega, hi, by omega, a4, a5, by omega, a7⟩
section
variable {p : Nat} {σ0 τ0 : Mem} {len : Nat} {k5 : Int32 → Mem → Option Mem} {rc : Nat → Int32 → Int32 → Mem → Option (Int32 × Mem)} {d : Nat} {kn : Int32} {i a : Nat} {P : Int32} {j : Nat} {L f : Int32} {K W : Nat → Int32} {l : Nat} {C N : Nat → Int32} {F : Mem} {g : Int32} {m n : Nat} {G : Mem → Option Mem}
theorem eT_notN {ρ : Int32} {k : Nat} {v4 v5 v6 : Int32} (hd : d + 1 < 8) (hl : l < 160) (h4 : F 14 (d + 1) = 4) (hv : ¬ v4 = 2) : Mo_endTerm_b9 (k + 1) v4 v5 v6 (mkM τ0 i 0 g (nI (d + 1)) l a f C N F) = Mo_endTerm_b9 k 2 0 (F 15 (d + 1)) (mkM τ0 i (-1000 - v6) g (nI d) (l + 1) a f (upR1 C l 33) (upR1 N l 0) F) := by
  have q : pmIn (nI (d + 1)) 8 = true := pmIn_nI hd (by omega)
  have q2 : (nI (d + 1)).toNatClampNeg = d + 1 := nI_clamp (by omega)
  rw [Mo_endTerm_b9]
  simp only [M_t, q, q2, if_true, M_F (c := 14) (by omega), h4, not_true_eq_false, if_false, hv, M_wt, Option.bind_some]
  exact eT_34 hd hl
theorem N_tail (hC : CT p σ0 τ0 len) {b : Bool} {ρ : Int32} {σ : Mem} (h : Dead p σ0 len b ρ σ) (hb : b = true) (ty v : Int32) : ∃ σ1, (Re_lookAt ty 1 v σ).bind (fun q18 => if isPo (ix (q18 15 2)) then (Po_append (ix (q18 15 2)) 33 0 q18).bind fun q28 => some ((1 : Int32), mput q28 15 6 0) else none) = some (1, σ1) ∧ Dead p σ0 len true ρ σ1 := by
  subst hb
  obtain ⟨σ2, e2, h2⟩ := dd_ap hC h 33 0
  refine ⟨_, ?_, dd_p6 h2 0⟩
  rw [dd_lk h, Option.bind_some, dd_ix hC h, if_pos hC.1, e2, Option.bind_some]
theorem T_not (hC : CT p σ0 τ0 len) (hT : TermP p σ0 τ0 len k5 (rc 4) (d + 1)) (hd : d < 6) (hP : Pre len d i a j l m f) (hi : i < len) (hK : Kn F d kn) (hG : Gd τ0 k5 m i G) (hn : 2050 ≤ n + 1 + d) :
    ∃ ty σ1, Re_not rc (nI (d + 1)) kn (mkX p σ0 (i + 1) 0 a P j L f K W) = some (ty, σ1) ∧ OutT p σ0 τ0 len k5 d m i a j l L K W C N F g ty σ1 ((Mo_readTerm_b2 n 1 (mkM τ0 (i + 1) 0 g (nI (d + 1)) l a f C N (oF F (d + 1) 4 i))).bind G) := by
  have hlen := hC.2.1
  have hP1 := Pre_d hP hi hd
  have hK1 : Kn (oF F (d + 1) 4 i) (d + 1) kn := by
    obtain ⟨t, ht, h4, hu, hk⟩ := hK
    refine ⟨t, by omega, by rw [oF_ne (by omega)]; exact h4, fun u a b => ?_, by rw [oF_ne (by omega), oF_ne (by omega), oF_ne (by omega)]; exact hk⟩
    rcases (show u = d + 1 ∨ u ≤ d by omega) with rfl | h
    · exact oF_at.1
    · rw [oF_ne (by omega)]
      exact hu u a h
  obtain ⟨ty, σ1, e1, o⟩ := hT kn (i + 1) a P j L f K W l C N (oF F (d + 1) 4 i) g m n G hP1 (by omega) hK1 (Gd_up hG (by omega))
  unfold Re_not
  rw [e1, Option.bind_some]
  show ∃ ty1 σ2, ((Re_lookAt ty 1 (nI (i + 1)) σ1).bind (fun q18 => if isPo (ix (q18 15 2)) then (Po_append (ix (q18 15 2)) 33 0 q18).bind fun q28 => some ((1 : Int32), mput q28 15 6 0) else none)) = some (ty1, σ2) ∧ _
  rcases o with ⟨ρ, τ1, o1, o2, o3⟩ | ⟨i2, a2, P2, j2, l2, L2, f2, K2, W2, C2, N2, F2, t2, e3, m3, k, G2, rfl, rfl, b1, b2, b3, b4, b5, b6, b7, b8⟩
  · obtain ⟨σ4, e4, h4⟩ := N_tail hC o1 rfl ty (nI (i + 1))
    exact ⟨1, σ4, e4, Or.inl ⟨ρ, τ1, h4, o2, o3⟩⟩
  · have hP2 := Pre_ex hP1 b5 b1 b2 b4
    have hl2 : l2 + d + 1 < 160 := by have := hP2.2.2.1; have := hP2.2.2.2.1; omega
    have hj2 : j2 < 160 := by have := hP2.2.2.1; omega
    have g14 : F2 14 (d + 1) = 4 := by rw [b6 14 (d + 1) (by omega) (by omega)]; exact oF_at.1
    have g15 : F2 15 (d + 1) = nI i := by rw [b6 15 (d + 1) (by omega) (by omega)]; exact oF_at.2.1
    have hfr : Fr 1 0 d F F2 := fun c u hu hc => by
      rw [b6 c u (by omega) (by omega), oF_ne (by omega)]
    obtain ⟨k, rfl⟩ : ∃ q, k = q + 1 := ⟨k - 1, by omega⟩
    have ht2 := b5.1.2.2.2.2.2.2
    rw [b8]
    rcases (show t2 = 0 ∨ t2 = 1 by omega) with rfl | rfl
    · have nz : (-1000 - nI (i + 1) : Int32) ≠ 0 := ne_sub (by omega) (Or.inr rfl)
      have hdd : Dead p σ0 len true (-1000 - nI (i + 1)) (mkX p σ0 i2 (-1000 - nI (i + 1)) a2 P2 j2 L2 f2 K2 W2) := Or.inl ⟨nz, _, _, _, _, _, _, _, _, by omega, by omega, rfl⟩
      obtain ⟨σ4, e4, h4⟩ := N_tail hC hdd rfl (nI 0) (nI (i + 1))
      rw [dd_lk hdd, Option.bind_some] at e4
      rw [r_lkN _ (show ¬ nI 0 = 1 by decide), Option.bind_some, eT_notN (ρ := 0) (by omega) (by omega) g14 (by decide)]
      obtain ⟨t, ht, h4', -, -⟩ := hK
      obtain ⟨d1, l3, C3, N3, F3, u1, u2, u3⟩ := eT_dead (τ0 := τ0) (i := i2) (g := g) (a := a2) (f := f2) nz d k (l2 + 1) 2 0 (F2 15 (d + 1)) (upR1 C2 l2 33) (upR1 N2 l2 0) F2 (by omega) (by omega) ⟨t, ht, by rw [hfr 14 t (by omega) (by omega)]; exact h4'⟩ (by omega)
      rw [u3, Option.bind_some, b7 _ _ _ _ _ _ _ _ _ _ (Nat.le_refl _) (by omega) u1]
      have hm3 : 1 ≤ m3 := by have := hP2.2.2.2.2.2.1; omega
      obtain ⟨m4, rfl⟩ : ∃ q, m3 = q + 1 := ⟨m3 - 1, by omega⟩
      exact ⟨1, σ4, e4, Or.inl (outR_i h4 u2 (L_ref 0 nz))⟩
    · rw [r_lk _ (show nI 1 = 1 from rfl), Option.bind_some, show nI (1 + 1) = 2 from rfl, eT_not (by omega) (by omega) g14, g15]
      show ∃ ty1 σ2, (if isPo (ix (mkX p σ0 i2 0 a2 P2 j2 L2 f2 K2 W2 15 2)) then (Po_append (ix (mkX p σ0 i2 0 a2 P2 j2 L2 f2 K2 W2 15 2)) 33 0 (mkX p σ0 i2 0 a2 P2 j2 L2 f2 K2 W2)).bind fun q28 => some ((1 : Int32), mput q28 15 6 0) else none) = some (ty1, σ2) ∧ _
      rw [ct_ix hC, if_pos hC.1, p_ap hC.1 hj2, Option.bind_some, x_p6]
      exact ⟨1, _, rfl, Or.inr ⟨i2, a2, 0, j2 + 1, l2 + 1, _, f2, _, _, _, _, F2, 1, dNot e3, m3, k, G2, rfl, rfl, b1, by omega, by omega, b4, Ex_not b5, hfr, b7, rfl⟩⟩
theorem T_par (hC : CT p σ0 τ0 len) (hA : AltP p σ0 τ0 len k5 (rc 0) (d + 1)) (hd : d < 6) (hP : Pre len d i a j l m f) (hi : i < len) (hG : Gd τ0 k5 m i G) (hn : 2050 ≤ n + 1 + d) :
    ∃ ty σ1, Re_bracketed rc (nI (d + 1)) kn (mkX p σ0 (i + 1) 0 a P j L f K W) = some (ty, σ1) ∧ OutT p σ0 τ0 len k5 d m i a j l L K W C N F g ty σ1 ((Mo_readTerm_b2 n 1 (mkM τ0 (i + 1) 0 g (nI (d + 1)) l a f C N (bR (mput (oF F (d + 1) 2 i) 20 (d + 1) kn) (d + 1) kn))).bind G) := by
  have hlen := hC.2.1
  have hP1 := Pre_d hP hi hd
  obtain ⟨y1, y2, y3, y4, y5, y6, y7⟩ := bR_at (F := mput (oF F (d + 1) 2 i) 20 (d + 1) kn) (d := d + 1) (v := kn)
  have y14 : bR (mput (oF F (d + 1) 2 i) 20 (d + 1) kn) (d + 1) kn 14 (d + 1) = 2 := by rw [bR_ne (by omega), mput_ne (by omega)]; exact oF_at.1
  have y15 : bR (mput (oF F (d + 1) 2 i) 20 (d + 1) kn) (d + 1) kn 15 (d + 1) = nI i := by rw [bR_ne (by omega), mput_ne (by omega)]; exact oF_at.2.1
  obtain ⟨ty, σ1, e1, o⟩ := hA kn (i + 1) a P j L f K W l C N _ g m n G hP1 (by omega) (by rw [y14]; decide) y1 y2 y3 y4 y5 y6 y7 (Gd_up hG (by omega))
  unfold Re_bracketed
  rw [e1, Option.bind_some]
  show ∃ ty1 σ2, ((Re_take 41 σ1).bind fun q10 => some (ty, q10)) = some (ty1, σ2) ∧ _
  rcases o with ⟨ρ, τ1, o1, o2, o3⟩ | ⟨i2, a2, P2, j2, l2, L2, f2, K2, W2, C2, N2, F2, t2, e3, m3, rfl, rfl, b1, b2, b4, b5, b6, ⟨g36, g37, g38⟩, b8⟩
  · obtain ⟨σ4, e4, h4⟩ := dd_tk hC o1 (v := 41) (by decide)
    rw [e4, Option.bind_some]
    exact ⟨ty, σ4, rfl, Or.inl ⟨ρ, τ1, h4, o2, o3⟩⟩
  · have hP2 := Pre_ex (m1 := m3 + 1) hP1 b5 (by omega) b2 b4
    have hl2 : l2 < 160 := by have := hP2.2.2.1; have := hP2.2.2.2.1; omega
    have g14 : F2 14 (d + 1) = 2 := by rw [b6 14 (d + 1) (by omega) (by omega)]; exact y14
    have g15 : F2 15 (d + 1) = nI i := by rw [b6 15 (d + 1) (by omega) (by omega)]; exact y15
    have hm3 : 1 ≤ m3 := by have := hP2.2.2.2.2.2.1; omega
    obtain ⟨m4, rfl⟩ : ∃ q, m3 = q + 1 := ⟨m3 - 1, by omega⟩
    rw [b8, row_par (by omega) g14, row141 (by omega)]
    by_cases hb : σ0 16 i2 = 41
    · rw [if_pos hb, R157_par (by omega) g14, g37, g38, g15, r_tk hC b1 hb, Option.bind_some]
      refine ⟨_, _, rfl, Or.inr ⟨i2 + 1, a2, P2, j2, l2, L2, f2, K2, W2, C2, N2, F2, t2, e3, m4 + 1, FU, AF k5 (m4 + 1) i2, rfl, rfl, by omega, by omega, by unfold FU; omega, b4, Ex_w b5 (by omega) (by omega), fun c u hu hc => ?_, AF_gd hC b1 (by rw [hb]; unfold isSn; decide), rfl⟩⟩
      rw [b6 c u (by omega) (by omega), bR_ne (by omega), mput_ne (by omega), oF_ne (by omega)]
    · have nz : (-10 - nI i2 : Int32) ≠ 0 := ne_sub (by omega) (Or.inl rfl)
      rw [if_neg hb, Option.bind_some, r_tkN hC b1 hb, Option.bind_some]
      exact ⟨_, _, rfl, Or.inl (outR_i (Or.inl ⟨nz, _, _, _, _, _, _, _, _, by have := hP2.2.2.1; omega, by omega, rfl⟩) (by omega) (AF_ref i2 nz))⟩
end
