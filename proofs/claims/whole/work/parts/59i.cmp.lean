theorem Chs_up {N N1 : Nat → Int32} {F F1 : Mem} {d l l1 : Nat} (h : Chs N F d l) (hN : ∀ k, k < l → N1 k = N k) (e1 : F1 34 d = F 34 d) (e2 : F1 39 d = F 39 d) (hl : l ≤ l1) : Chs N1 F1 d l1 := by
  obtain ⟨l0, js, ks, h0, hj, hk⟩ := h
  refine ⟨l0, js, ks, by omega, ?_, ?_⟩
  · rw [e1]
    exact Lk_mono hl js (Lk_cg js _ _ hj (fun k _ hk => hN k hk))
  · rw [e2]
    exact Lk_cg ks _ _ hk (fun k _ hk => hN k (by omega))
def OutC (p : Nat) (σ0 τ0 : Mem) (len : Nat) (k5 : Int32 → Mem → Option Mem) (d m i a j l : Nat) (L : Int32) (K W C N : Nat → Int32) (F : Mem) (g ty : Int32) (σ1 : Mem) (E : Option Mem) : Prop :=
  OutR p σ0 τ0 len k5 false σ1 E ∨ ∃ i1 a1 P1 j1 l1 L1 f1 K1 W1 C1 N1 F1 t e m1, ty = nI t ∧ σ1 = mkX p σ0 i1 0 a1 P1 j1 L1 f1 K1 W1 ∧ i1 < len ∧ m + i ≤ m1 + 1 + i1 ∧ (f1 = 0 ∨ f1 = 1) ∧ Ex i a j l L K W C N i1 a1 j1 l1 L1 K1 W1 C1 N1 t e ∧ Fr 23 29 d F F1 ∧ (F1 23 d = 0 ∧ F1 27 d = 0) ∧ E = (Mo_goOn_b222 (σ0 16 i1) (nI d) (nI (t + 1)) P1 (nI i) (mkM τ0 i1 0 g (nI d) l1 a1 f1 C1 N1 F1)).bind (AF k5 m1 i1)
def CmpP (p : Nat) (σ0 τ0 : Mem) (len : Nat) (k5 : Int32 → Mem → Option Mem) (fn : Int32 → Int32 → Mem → Option (Int32 × Mem)) (d : Nat) : Prop :=
  ∀ kn i a P j L f K W l C N F g m nf G, Pre len d i a j l m f → 2050 ≤ nf + d → ¬ F 14 d = 4 → F 23 d = 0 → F 27 d = 0 → Kn F d kn → Chs N F d l → Gd τ0 k5 m i G → ∃ ty σ1, fn (nI d) kn (mkX p σ0 i 0 a P j L f K W) = some (ty, σ1) ∧ OutC p σ0 τ0 len k5 d m i a j l L K W C N F g ty σ1 ((Mo_readTerm_b2 nf 1 (mkM τ0 i 0 g (nI d) l a f C N F)).bind G)
section
variable {p : Nat} {σ0 τ0 : Mem} {len : Nat} {k5 : Int32 → Mem → Option Mem} {rc : Nat → Int32 → Int32 → Mem → Option (Int32 × Mem)} {d : Nat}
theorem C_tail (hC : CT p σ0 τ0 len) {b : Bool} {ρ : Int32} {σ : Mem} (h : Dead p σ0 len b ρ σ) (ty v4 v v5 : Int32) : ∃ σ1, (Re_lookAtEnded ty v4 v σ).bind (fun q85 => if isPo (ix (q85 15 2)) then (Po_append (ix (q85 15 2)) v5 0 q85).bind fun q95 => some ((1 : Int32), mput q95 15 6 0) else none) = some (1, σ1) ∧ Dead p σ0 len b ρ σ1 := by
  obtain ⟨σ2, e2, h2⟩ := dd_ap hC h v5 0
  refine ⟨_, ?_, dd_p6 h2 0⟩
  rw [dd_le hC h, Option.bind_some, dd_ix hC h, if_pos hC.1, e2, Option.bind_some]
theorem C_58d (hC : CT p σ0 τ0 len) (hD : DeadP p σ0 len rc 3) {b : Bool} {ρ : Int32} {σ : Mem} (h : Dead p σ0 len b ρ σ) (x y v4 v5 : Int32) (hv : ¬ v5 = -1) : ∃ σ1, Re_comparison_b58 rc x y v4 v5 σ = some (1, σ1) ∧ Dead p σ0 len true ρ σ1 := by
  obtain ⟨σ2, e2, h2⟩ := dd_tk hC h hv
  obtain ⟨ty, σ3, e3, h3⟩ := hD x y true ρ σ2 h2
  obtain ⟨σ4, e4, h4⟩ := C_tail hC h3 ty v4 (σ2 15 3) v5
  refine ⟨σ4, ?_, h4⟩
  unfold Re_comparison_b58
  rw [e2, Option.bind_some, e3, Option.bind_some]
  exact e4
/-- a comparison from its sign on -/
theorem C_sign (hC : CT p σ0 τ0 len) (hS : SumP p σ0 τ0 len k5 (rc 3) d) {kn : Int32} {i a j l : Nat} {L : Int32} {K W C N : Nat → Int32} {F : Mem} {g : Int32} {m : Nat} {f : Int32} (hP : Pre len d i a j l m f) (h14 : ¬ F 14 d = 4) (hK : Kn F d kn) (hCh : Chs N F d l)
    {i1 a1 : Nat} {P1 : Int32} {j1 l1 : Nat} {L1 f1 : Int32} {K1 W1 C1 N1 : Nat → Int32} {F1 : Mem} {t : Nat} {e : Den} {m1 : Nat} (hi1 : i1 < len) (hm : m + i ≤ m1 + 1 + i1) (hf : f1 = 0 ∨ f1 = 1) (hE : Ex i a j l L K W C N i1 a1 j1 l1 L1 K1 W1 C1 N1 t e) (hF : Fr 23 26 d F F1) (f23 : F1 23 d = 0)
    (hs : σ0 16 i1 = 60 ∨ σ0 16 i1 = 61 ∨ σ0 16 i1 = 35) (h60 : σ0 16 i1 = 60 → t = 0) : ∃ ty σ1, Re_comparison_b58 rc (nI d) kn (nI t) (σ0 16 i1) (mkX p σ0 i1 0 a1 P1 j1 L1 f1 K1 W1) = some (ty, σ1) ∧ OutC p σ0 τ0 len k5 d m i a j l L K W C N F g ty σ1 (AF k5 m1 i1 (mkM τ0 (i1 + 1) 0 g (nI d) l1 a1 f1 C1 N1 (mput (mput (mput F1 27 d (σ0 16 i1)) 29 d (nI (t + 1))) 28 d (nI i)))) := by
  have hlen := hC.2.1
  have hd : d < 8 := by have := hP.1; omega
  have hm1 : 1800 ≤ m1 := by have := hP.2.2.2.2.2.1; omega
  have hP1 := Pre_ex (m1 := m1 + 1) hP hE (by omega) hm hf
  have hsn : isSn (σ0 16 i1) := by
    rcases hs with e | e | e
    · exact Or.inr (Or.inr (Or.inl e))
    · exact Or.inr (Or.inr (Or.inr (Or.inl e)))
    · exact Or.inr (Or.inr (Or.inr (Or.inr (Or.inl e))))
  have hsg : isSg (σ0 16 i1) := by
    rcases hs with e | e | e
    · exact Or.inr (Or.inr (Or.inl e))
    · exact Or.inr (Or.inr (Or.inr (Or.inl e)))
    · exact Or.inr (Or.inr (Or.inr (Or.inr e)))
  have hs0 : ¬ σ0 16 i1 = 0 := by
    rcases hs with e | e | e <;> rw [e] <;> decide
  have ht := hE.1.2.2.2.2.2.2
  rw [AF_sn hC hi1 hsn]
  obtain ⟨G, hG, e1⟩ := L_1 (τ0 := τ0) (k5 := k5) (i := i1 + 1) (g := g) (l := l1) (a := a1) (f := f1) (C := C1) (N := N1) (F := mput (mput (mput F1 27 d (σ0 16 i1)) 29 d (nI (t + 1))) 28 d (nI i)) (m := m1) hd (by omega)
  rw [e1]
  unfold Re_comparison_b58
  rw [r_tk hC hi1 rfl, Option.bind_some]
  have hK2 : Kn (mput (mput (mput F1 27 d (σ0 16 i1)) 29 d (nI (t + 1))) 28 d (nI i)) d kn := Kn_cg hK (fun u hu => by
    refine ⟨?_, ?_, ?_, ?_⟩ <;> (rw [mput_ne (by omega), mput_ne (by omega), mput_ne (by omega)]; exact hF _ u hu (by omega)))
  obtain ⟨ty, σ1, e2, o⟩ := hS kn (i1 + 1) a1 P1 j1 L1 f1 K1 W1 l1 C1 N1 _ g m1 FU G (Pre_s hP1 hi1 (by omega)) (by unfold FU; omega) (by rw [mput_ne (by omega), mput_ne (by omega), mput_ne (by omega), hF 14 d (by omega) (by omega)]; exact h14) (by rw [mput_ne (by omega), mput_ne (by omega), mput_ne (by omega)]; exact f23) hK2 hG
  rw [e2, Option.bind_some]
  rcases o with ⟨ρ, τ1, o1, o2, o3⟩ | ⟨i2, a2, P2, j2, l2, L2, f2, K2, W2, C2, N2, F2, t2, e3, m3, rfl, rfl, b1, b2, b4, b5, b6, ⟨g23, g24, g25, g26⟩, b7, b8⟩
  · obtain ⟨σ4, e4, h4⟩ := C_tail hC o1 ty (nI t) (nI (i1 + 1)) (σ0 16 i1)
    exact ⟨1, σ4, e4, Or.inl ⟨ρ, τ1, h4, o2, o3⟩⟩
  · have hP2 := Pre_ex (Pre_s hP1 hi1 (m1 := m1) (by omega)) b5 (by omega) b2 b4
    have hl2 : l2 + 1 < 160 := by have := hP2.2.2.1; have := hP2.2.2.2.1; omega
    have hj2 : j2 < 160 := by have := hP2.2.2.1; omega
    have ht2 := b5.1.2.2.2.2.2.2
    have g27 : F2 27 d = σ0 16 i1 := by rw [b6 27 d (by omega) (by omega), mput_ne (by omega), mput_ne (by omega), mput_eq]
    have g29 : F2 29 d = nI (t + 1) := by rw [b6 29 d (by omega) (by omega), mput_ne (by omega), mput_eq]
    have g28 : F2 28 d = nI i := by rw [b6 28 d (by omega) (by omega), mput_eq]
    have hfr : Fr 23 29 d F (mput F2 27 d 0) := by
      intro c u hu hc
      rw [mput_ne (by omega), b6 c u hu (by omega), mput_ne (by omega), mput_ne (by omega), mput_ne (by omega)]
      exact hF c u hu (by omega)
    obtain ⟨m4, rfl⟩ : ∃ q, m3 = q + 1 := ⟨m3 - 1, by omega⟩
    have hgo : Mo_readConditions_b98 k5 (m4 + 1) 0 (mkM τ0 i2 0 g (nI d) l2 a2 f2 C2 N2 F2) = (Mo_goOn_b122 (σ0 16 i2) (nI d) (nI (i1 + 1)) (nI (t2 + 1)) (nI (t + 1)) (mkM τ0 i2 0 g (nI d) l2 a2 f2 C2 N2 F2)).bind (AF k5 m4 i2) := by
      rw [L_go hd, g_rest hC b1 hd b7, if_neg (by rw [g27]; exact hs0), g24, g25, g29, g27]
      by_cases h : σ0 16 i1 = 60
      · rw [if_neg (fun z => z h), h60 h]
        rfl
      · rw [if_pos h]
    rw [b8, hgo]
    unfold Mo_goOn_b122
    rw [show mkX p σ0 (i1 + 1) 0 a1 P1 j1 L1 f1 K1 W1 15 3 = nI (i1 + 1) from rfl]
    by_cases htt : t2 = t
    · subst htt
      rw [r_le hC b1, r_lk _ rfl, Option.bind_some, if_pos rfl, M_131 hd (by omega), g28, g27]
      show ∃ ty σ1, (if isPo (ix (mkX p σ0 i2 0 a2 P2 j2 L2 f2 K2 W2 15 2)) then (Po_append (ix (mkX p σ0 i2 0 a2 P2 j2 L2 f2 K2 W2 15 2)) (σ0 16 i1) 0 (mkX p σ0 i2 0 a2 P2 j2 L2 f2 K2 W2)).bind fun q95 => some ((1 : Int32), mput q95 15 6 0) else none) = some (ty, σ1) ∧ _
      rw [ct_ix hC, if_pos hC.1, p_ap hC.1 hj2, Option.bind_some, x_p6]
      refine ⟨1, _, rfl, Or.inr ⟨i2, a2, 0, j2 + 1, l2 + 1, _, f2, _, _, _, _, _, 1, _, m4, rfl, rfl, b1, by omega, b4, Ex_bin hE b5 hsg (by omega) (fun _ => Tr_bin hs), hfr, ⟨?_, mput_eq⟩, rfl⟩⟩
      rw [mput_ne (by omega)]
      exact g23
    · have hne : ¬ nI t2 = nI t := fun z => htt ((nI_eq (by omega) (by omega)).mp z)
      have hne2 : ¬ nI (t2 + 1) = nI (t + 1) := fun z => htt (by have := (nI_eq (by omega) (by omega)).mp z; omega)
      have nz : (-1000 - nI (i1 + 1) : Int32) ≠ 0 := ne_sub (by omega) (Or.inr rfl)
      have hdd : Dead p σ0 len true (-1000 - nI (i1 + 1)) (mkX p σ0 i2 (-1000 - nI (i1 + 1)) a2 P2 j2 L2 f2 K2 W2) := Or.inl ⟨nz, _, _, _, _, _, _, _, _, by omega, by omega, rfl⟩
      obtain ⟨σ4, e4, h4⟩ := C_tail hC hdd (nI t2) (nI t) (nI (i1 + 1)) (σ0 16 i1)
      rw [dd_le hC hdd, Option.bind_some] at e4
      rw [r_le hC b1, r_lkN _ hne, Option.bind_some, if_neg hne2, M_wt, Option.bind_some, M_131 hd (by omega)]
      have hl0 := hE.2.2.2.2.1.1
      have hl1 := b5.2.2.2.2.1.1
      have hch : Chs (upR1 N2 l2 0) (mput F2 27 d 0) d (l2 + 1) := by
        refine Chs_up hCh (fun k hk => ?_) (hfr 34 d (by omega) (by omega)) (hfr 39 d (by omega) (by omega)) (by omega)
        rw [up_ne (by omega), (b5.2.2.2.2.2.2.2 k (by omega)).2]
        exact (hE.2.2.2.2.2.2.2 k hk).2
      obtain ⟨τ1, u1, i3, g3, top3, l3, a3, f3, C3, N3, F3, u2, rfl⟩ := d222 (τ0 := τ0) (i := i2) (g := g) (top := nI d) (a := a2) (f := f2) (C := upR1 C2 l2 (F2 27 d)) (b := σ0 16 i2) nz hd hl2 hch 2 0 (F2 28 d)
      rw [u1, Option.bind_some]
      obtain ⟨m5, rfl⟩ : ∃ q, m4 = q + 1 := ⟨m4 - 1, by omega⟩
      exact ⟨1, σ4, e4, Or.inl (outR_i (dd_w h4) u2 (AF_ref i2 nz))⟩
theorem T_cmp (hC : CT p σ0 τ0 len) (hS : SumP p σ0 τ0 len k5 (rc 3) d) (hD : DeadP p σ0 len rc 3) : CmpP p σ0 τ0 len k5 (Re_comparison rc) d := by
  intro kn i a P j L f K W l C N F g m nf G hP hnf h14 h23 h27 hK hCh hG
  have hlen := hC.2.1
  have hd : d < 8 := by have := hP.1; omega
  obtain ⟨ty, σ1, e1, o⟩ := hS kn i a P j L f K W l C N F g m nf G hP hnf h14 h23 hK hG
  unfold Re_comparison
  rw [e1, Option.bind_some]
  show ∃ ty1 σ2, ((Re_next σ1).bind fun q14 => if q14 = 60 then Re_comparison_b43 rc (nI d) kn (nI i) ty q14 σ1 else if q14 = 61 then Re_comparison_b43 rc (nI d) kn (nI i) ty q14 σ1 else if q14 = 35 then Re_comparison_b43 rc (nI d) kn (nI i) ty q14 σ1 else some (ty, σ1)) = some (ty1, σ2) ∧ _
  rcases o with ⟨ρ, τ1, o1, o2, o3⟩ | ⟨i1, a1, P1, j1, l1, L1, f1, K1, W1, C1, N1, F1, t, e, m1, rfl, rfl, hi1, hm, hf, hE, hF, ⟨g23, g24, g25, g26⟩, b7, b8⟩
  · rw [dd_nx hC o1, Option.bind_some, if_neg (by decide), if_neg (by decide), if_neg (by decide)]
    exact ⟨ty, σ1, rfl, Or.inl ⟨ρ, τ1, dd_w o1, o2, o3⟩⟩
  · have hm1 : 1800 ≤ m1 := by have := hP.2.2.2.2.2.1; omega
    have hP1 := Pre_ex hP hE (by omega) hm hf
    obtain ⟨m2, rfl⟩ : ∃ q, m1 = q + 1 := ⟨m1 - 1, by omega⟩
    have g27 : F1 27 d = 0 := by rw [hF 27 d (by omega) (by omega)]; exact h27
    have ht := hE.1.2.2.2.2.2.2
    rw [r_nx hC hi1, Option.bind_some, b8, L_go hd, g_rest hC hi1 hd b7, if_pos g27, g24, g25, g26]
    by_cases hs : σ0 16 i1 = 60 ∨ σ0 16 i1 = 61 ∨ σ0 16 i1 = 35
    · have hcl : (if σ0 16 i1 = 60 then Re_comparison_b43 rc (nI d) kn (nI i) (nI t) (σ0 16 i1) (mkX p σ0 i1 0 a1 P1 j1 L1 f1 K1 W1) else if σ0 16 i1 = 61 then Re_comparison_b43 rc (nI d) kn (nI i) (nI t) (σ0 16 i1) (mkX p σ0 i1 0 a1 P1 j1 L1 f1 K1 W1) else if σ0 16 i1 = 35 then Re_comparison_b43 rc (nI d) kn (nI i) (nI t) (σ0 16 i1) (mkX p σ0 i1 0 a1 P1 j1 L1 f1 K1 W1) else some (nI t, mkX p σ0 i1 0 a1 P1 j1 L1 f1 K1 W1)) = Re_comparison_b43 rc (nI d) kn (nI i) (nI t) (σ0 16 i1) (mkX p σ0 i1 0 a1 P1 j1 L1 f1 K1 W1) := by
        rcases hs with e | e | e <;> rw [e] <;> rfl
      have hcm : ¬ Mo_isComparing (σ0 16 i1) = 0 := by
        rcases hs with e | e | e <;> rw [e] <;> decide
      rw [hcl, if_neg hcm]
      unfold Re_comparison_b43
      by_cases h60 : σ0 16 i1 = 60
      · rw [if_neg (fun z => z h60), if_neg (fun z => z h60)]
        rcases (show t = 0 ∨ t = 1 by omega) with rfl | rfl
        · rw [r_lk _ (show nI 0 = 0 from rfl), Option.bind_some, if_pos (show nI (0 + 1) = 1 from rfl), M_189 hd, Option.bind_some]
          exact C_sign hC hS hP h14 hK hCh hi1 (by omega) hf hE hF g23 hs (fun _ => rfl)
        · have nz : (-1000 - nI i : Int32) ≠ 0 := ne_sub (by have := hP.2.1; omega) (Or.inr rfl)
          have hdd : Dead p σ0 len true (-1000 - nI i) (mkX p σ0 i1 (-1000 - nI i) a1 P1 j1 L1 f1 K1 W1) := Or.inl ⟨nz, _, _, _, _, _, _, _, _, by have := hP1.2.2.1; omega, by omega, rfl⟩
          obtain ⟨σ4, e4, h4⟩ := C_58d hC hD hdd (nI d) kn (nI 1) (σ0 16 i1) (ct_b hC hi1)
          rw [r_lkN _ (show ¬ nI 1 = 0 by decide), Option.bind_some, e4, if_neg (by decide), M_wt, Option.bind_some, M_189 hd, Option.bind_some]
          obtain ⟨m5, rfl⟩ : ∃ q, m2 = q + 1 := ⟨m2 - 1, by omega⟩
          exact ⟨1, σ4, rfl, Or.inl (outR_i (dd_w h4) (by have := hP1.2.2.1; have := hP1.2.2.2.1; omega) (AF_ref i1 nz))⟩
      · rw [if_pos h60, if_pos h60, M_189 hd, Option.bind_some]
        exact C_sign hC hS hP h14 hK hCh hi1 (by omega) hf hE hF g23 hs (fun z => absurd z h60)
    · have n1 : ¬ σ0 16 i1 = 60 := fun z => hs (Or.inl z)
      have n2 : ¬ σ0 16 i1 = 61 := fun z => hs (Or.inr (Or.inl z))
      have n3 : ¬ σ0 16 i1 = 35 := fun z => hs (Or.inr (Or.inr z))
      have hcm : Mo_isComparing (σ0 16 i1) = 0 := by
        unfold Mo_isComparing
        rw [if_neg n1, if_neg n2, if_pos n3]
      rw [if_neg n1, if_neg n2, if_neg n3, if_pos hcm]
      exact ⟨nI t, _, rfl, Or.inr ⟨i1, a1, P1, j1, l1, L1, f1, K1, W1, C1, N1, F1, t, e, m2, rfl, rfl, hi1, by omega, hf, hE, fun c u hu hc => hF c u hu (by omega), ⟨g23, g27⟩, rfl⟩⟩
end
