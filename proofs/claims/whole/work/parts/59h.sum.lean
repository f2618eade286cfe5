/-- between the two states an expression with the meaning e has been read by both -/
def Ex (i a j l : Nat) (L : Int32) (K W C N : Nat → Int32) (i1 a1 j1 l1 : Nat) (L1 : Int32) (K1 W1 C1 N1 : Nat → Int32) (t : Nat) (e : Den) : Prop :=
  (i < i1 ∧ j < j1 ∧ j1 + i ≤ j + i1 ∧ l1 + j = l + j1 ∧ a < a1 ∧ a1 ≤ 12 ∧ t < 2) ∧ (∃ x, L1 = L ||| x) ∧ DepE L1 e ∧ SegX K1 W1 j j1 (a1 - a) e ∧ SegM C1 N1 l l1 (a1 - a) e ∧ (t = 1 → Tr01 e) ∧ (∀ q, q < j → K1 q = K q ∧ W1 q = W q) ∧ (∀ q, q < l → C1 q = C q ∧ N1 q = N q)
theorem or_as (x y z : Int32) : x ||| y ||| z = x ||| (y ||| z) := Int32.or_assoc x y z
theorem up_ne {K : Nat → Int32} {j q : Nat} {x : Int32} (h : q ≠ j) : upR1 K j x q = K q := if_neg h
theorem up_eq {K : Nat → Int32} {j : Nat} {x : Int32} : upR1 K j x j = x := if_pos rfl
theorem Ex_bin {i a j l : Nat} {L : Int32} {K W C N : Nat → Int32} {i1 a1 j1 l1 : Nat} {L1 : Int32} {K1 W1 C1 N1 : Nat → Int32} {t1 : Nat} {e1 : Den} {i2 a2 j2 l2 : Nat} {L2 : Int32} {K2 W2 C2 N2 : Nat → Int32} {t2 : Nat} {e2 : Den} {c : Int32} {t : Nat} (h1 : Ex i a j l L K W C N i1 a1 j1 l1 L1 K1 W1 C1 N1 t1 e1) (h2 : Ex (i1 + 1) a1 j1 l1 L1 K1 W1 C1 N1 i2 a2 j2 l2 L2 K2 W2 C2 N2 t2 e2) (hc : isSg c) (ht : t < 2) (hT : t = 1 → Tr01 (dBin c e1 e2)) :
    Ex i a j l L K W C N i2 a2 (j2 + 1) (l2 + 1) (L2 ||| Po_bitsOf c) (upR1 K2 j2 c) (upR1 W2 j2 0) (upR1 C2 l2 c) (upR1 N2 l2 0) t (dBin c e1 e2) := by
  obtain ⟨⟨n1, n2, n3, n4, n5, n6, n7⟩, ⟨x, hx⟩, d1, sx1, sm1, -, k1, c1⟩ := h1
  obtain ⟨⟨m1, m2, m3, m4, m5, m6, m7⟩, ⟨y, hy⟩, d2, sx2, sm2, -, k2, c2⟩ := h2
  have hl : l ≤ l1 := sm1.1
  have hl2 : l1 ≤ l2 := sm2.1
  refine ⟨⟨by omega, by omega, by omega, by omega, by omega, by omega, ht⟩, ⟨x ||| y ||| Po_bitsOf c, by rw [hy, hx, or_as, or_as, or_as]⟩, ?_, ?_, ?_, hT, fun q hq => ?_, fun q hq => ?_⟩
  · refine DepE_bin (DepE_up ?_) (DepE_up d2)
    rw [hy]
    exact DepE_up d1
  · rw [show a2 - a = (a1 - a) + (a2 - a1) by omega]
    refine SegX_bin hc (SegX_cg sx1 (fun q b1 b2 => ?_)) (SegX_cg sx2 (fun q b1 b2 => ?_)) up_eq
    · rw [up_ne (by omega), up_ne (by omega)]
      exact k2 q b2
    · rw [up_ne (by omega), up_ne (by omega)]
      exact ⟨rfl, rfl⟩
  · rw [show a2 - a = (a1 - a) + (a2 - a1) by omega]
    refine SegM_bin hc (SegM_cg sm1 (fun q b1 b2 => ?_)) (SegM_cg sm2 (fun q b1 b2 => ?_)) up_eq
    · rw [up_ne (by omega), up_ne (by omega)]
      exact c2 q b2
    · rw [up_ne (by omega), up_ne (by omega)]
      exact ⟨rfl, rfl⟩
  · rw [up_ne (by omega), up_ne (by omega), (k2 q (by omega)).1, (k2 q (by omega)).2]
    exact k1 q hq
  · rw [up_ne (by omega), up_ne (by omega), (c2 q (by omega)).1, (c2 q (by omega)).2]
    exact c1 q hq
def Fr (lo hi d : Nat) (F F1 : Mem) : Prop := ∀ c u, u ≤ d → (u < d ∨ c < lo ∨ hi < c) → F1 c u = F c u
def Pre (len d i a j l m : Nat) (f : Int32) : Prop := d ≤ 6 ∧ i ≤ len ∧ j + d + 6 ≤ i ∧ l ≤ j ∧ a ≤ 12 ∧ 2000 ≤ m + i ∧ (f = 0 ∨ f = 1)
theorem Pre_ex {len d i a j l m : Nat} {f : Int32} {L : Int32} {K W C N : Nat → Int32} {i1 a1 j1 l1 : Nat} {L1 : Int32} {K1 W1 C1 N1 : Nat → Int32} {t1 : Nat} {e1 : Den} (h : Pre len d i a j l m f) (h1 : Ex i a j l L K W C N i1 a1 j1 l1 L1 K1 W1 C1 N1 t1 e1) {m1 : Nat} {f1 : Int32} (hi : i1 ≤ len) (hm : m + i ≤ m1 + i1) (hf : f1 = 0 ∨ f1 = 1) : Pre len d i1 a1 j1 l1 m1 f1 := by
  obtain ⟨⟨n1, n2, n3, n4, n5, n6, n7⟩, -⟩ := h1
  obtain ⟨a1, a2, a3, a4, a5, a6, a7⟩ := h
  exact ⟨a1, hi, by omega, by omega, by omega, by omega, hf⟩
theorem Pre_s {len d i a j l m m1 : Nat} {f : Int32} (h : Pre len d i a j l m f) (hi : i < len) (hm : m ≤ m1 + 1) : Pre len d (i + 1) a j l m1 f := by
  obtain ⟨a1, a2, a3, a4, a5, a6, a7⟩ := h
  exact ⟨a1, hi, by omega, by omega, by omega, by omega, a7⟩
theorem Kn_cg {F F1 : Mem} {d : Nat} {kn : Int32} (h : Kn F d kn) (e : ∀ u, u ≤ d → F1 14 u = F 14 u ∧ F1 30 u = F 30 u ∧ F1 33 u = F 33 u ∧ F1 40 u = F 40 u) : Kn F1 d kn := by
  obtain ⟨t, ht, h4, hu, hk⟩ := h
  refine ⟨t, ht, by rw [(e t ht).1]; exact h4, fun u a b => by rw [(e u b).1]; exact hu u a b, ?_⟩
  rw [(e t ht).2.1, (e t ht).2.2.1, (e t ht).2.2.2]
  exact hk
def OutR (p : Nat) (σ0 τ0 : Mem) (len : Nat) (k5 : Int32 → Mem → Option Mem) (b : Bool) (σ1 : Mem) (E : Option Mem) : Prop := ∃ ρ τ1, Dead p σ0 len b ρ σ1 ∧ RefM τ0 ρ τ1 ∧ E = k5 (-1) τ1
def OutT (p : Nat) (σ0 τ0 : Mem) (len : Nat) (k5 : Int32 → Mem → Option Mem) (d m i a j l : Nat) (L : Int32) (K W C N : Nat → Int32) (F : Mem) (g ty : Int32) (σ1 : Mem) (E : Option Mem) : Prop :=
  OutR p σ0 τ0 len k5 true σ1 E ∨ ∃ i1 a1 P1 j1 l1 L1 f1 K1 W1 C1 N1 F1 t e m1 k G, ty = nI t ∧ σ1 = mkX p σ0 i1 0 a1 P1 j1 L1 f1 K1 W1 ∧ i1 ≤ len ∧ m + i ≤ m1 + i1 ∧ 2050 + d ≤ k ∧ (f1 = 0 ∨ f1 = 1) ∧ Ex i a j l L K W C N i1 a1 j1 l1 L1 K1 W1 C1 N1 t e ∧ Fr 1 0 d F F1 ∧ Gd τ0 k5 m1 i1 G ∧ E = (Mo_endTerm_b9 k (nI (t + 1)) P1 (nI i) (mkM τ0 i1 0 g (nI d) l1 a1 f1 C1 N1 F1)).bind G
def TermP (p : Nat) (σ0 τ0 : Mem) (len : Nat) (k5 : Int32 → Mem → Option Mem) (fn : Int32 → Int32 → Mem → Option (Int32 × Mem)) (d : Nat) : Prop :=
  ∀ kn i a P j L f K W l C N F g m nf G, Pre len d i a j l m f → 2050 ≤ nf + d → Kn F d kn → Gd τ0 k5 m i G → ∃ ty σ1, fn (nI d) kn (mkX p σ0 i 0 a P j L f K W) = some (ty, σ1) ∧ OutT p σ0 τ0 len k5 d m i a j l L K W C N F g ty σ1 ((Mo_readTerm_b2 nf 1 (mkM τ0 i 0 g (nI d) l a f C N F)).bind G)
def OutS (p : Nat) (σ0 τ0 : Mem) (len : Nat) (k5 : Int32 → Mem → Option Mem) (d m i a j l : Nat) (L : Int32) (K W C N : Nat → Int32) (F : Mem) (g ty : Int32) (σ1 : Mem) (E : Option Mem) : Prop :=
  OutR p σ0 τ0 len k5 false σ1 E ∨ ∃ i1 a1 P1 j1 l1 L1 f1 K1 W1 C1 N1 F1 t e m1, ty = nI t ∧ σ1 = mkX p σ0 i1 0 a1 P1 j1 L1 f1 K1 W1 ∧ i1 < len ∧ m + i ≤ m1 + i1 ∧ (f1 = 0 ∨ f1 = 1) ∧ Ex i a j l L K W C N i1 a1 j1 l1 L1 K1 W1 C1 N1 t e ∧ Fr 23 26 d F F1 ∧ (F1 23 d = 0 ∧ F1 24 d = nI i ∧ F1 25 d = nI (t + 1) ∧ F1 26 d = P1) ∧ ¬ (σ0 16 i1 = 43 ∨ σ0 16 i1 = 45) ∧ E = Mo_readConditions_b98 k5 m1 0 (mkM τ0 i1 0 g (nI d) l1 a1 f1 C1 N1 F1)
def SumP (p : Nat) (σ0 τ0 : Mem) (len : Nat) (k5 : Int32 → Mem → Option Mem) (fn : Int32 → Int32 → Mem → Option (Int32 × Mem)) (d : Nat) : Prop :=
  ∀ kn i a P j L f K W l C N F g m nf G, Pre len d i a j l m f → 2050 ≤ nf + d → ¬ F 14 d = 4 → F 23 d = 0 → Kn F d kn → Gd τ0 k5 m i G → ∃ ty σ1, fn (nI d) kn (mkX p σ0 i 0 a P j L f K W) = some (ty, σ1) ∧ OutS p σ0 τ0 len k5 d m i a j l L K W C N F g ty σ1 ((Mo_readTerm_b2 nf 1 (mkM τ0 i 0 g (nI d) l a f C N F)).bind G)
theorem outR_i {p : Nat} {σ0 τ0 : Mem} {len : Nat} {k5 : Int32 → Mem → Option Mem} {b : Bool} {σ1 : Mem} {E : Option Mem} {i : Nat} {ρ g top : Int32} {l a : Nat} {f : Int32} {C N : Nat → Int32} {F : Mem} (hd : Dead p σ0 len b ρ σ1) (hl : l ≤ 160) (e : E = k5 (-1) (mkM τ0 i ρ g top l a f C N F)) : OutR p σ0 τ0 len k5 b σ1 E := ⟨ρ, _, hd, ⟨i, g, top, l, a, f, C, N, F, hl, rfl⟩, e⟩
section
variable {p : Nat} {σ0 τ0 : Mem} {len : Nat} {k5 : Int32 → Mem → Option Mem} {rc : Nat → Int32 → Int32 → Mem → Option (Int32 × Mem)} {d : Nat}
theorem ct_b (h : CT p σ0 τ0 len) {i : Nat} (hi : i < len) : ¬ σ0 16 i = -1 := by
  obtain ⟨b, hb, e⟩ := (h.2.2.2.2.2 i hi).2
  rw [e]
  intro z
  have := nI_pos (n := b) (by omega)
  rw [z] at this
  exact this (by decide)
theorem S_dead (hC : CT p σ0 τ0 len) {b : Bool} {ρ : Int32} {σ : Mem} (h : Dead p σ0 len b ρ σ) {n c : Nat} (hn : 1 ≤ n) (hc : c < 160) (x y v3 v4 : Int32) : Re_sum_b16 rc n x y v3 v4 (nI c) σ = some (v4, σ) := by
  obtain ⟨n, rfl⟩ : ∃ q, n = q + 1 := ⟨n - 1, by omega⟩
  rw [Re_sum_b16, if_neg (show ¬ (160 : Int32) ≤ nI c from nI_ge (a := c) (b := 160) hc n31), dd_nx hC h, Option.bind_some, if_neg (by decide), Option.bind_some, if_pos (by decide)]
theorem S_42d (hC : CT p σ0 τ0 len) {b : Bool} {ρ : Int32} {σ : Mem} (h : Dead p σ0 len b ρ σ) {n c : Nat} (hn : 1 ≤ n) (hc : c + 1 < 160) (x y v3 ty v s : Int32) (hs : b = true) : (Re_lookAt ty 0 v σ).bind (fun q82 => if isPo (ix (q82 15 2)) then (Po_append (ix (q82 15 2)) s 0 q82).bind fun q92 => Re_sum_b16 rc n x y v3 ty (nI c + 1) (mput q92 15 6 0) else none) = some (ty, mput ((Po_append p s 0 σ).getD σ) 15 6 0) ∧ Dead p σ0 len true ρ (mput ((Po_append p s 0 σ).getD σ) 15 6 0) := by
  subst hs
  obtain ⟨σ2, e2, h2⟩ := dd_ap hC h s 0
  have h3 := dd_p6 h2 0
  rw [dd_lk h, Option.bind_some, dd_ix hC h, if_pos hC.1, e2, Option.bind_some, nI_1]
  exact ⟨S_dead hC h3 hn hc x y v3 ty, h3⟩
theorem S_loop (hC : CT p σ0 τ0 len) (hT : TermP p σ0 τ0 len k5 (rc 4) d) (hD : DeadP p σ0 len rc 4) {kn : Int32} {i a j l : Nat} {L : Int32} {K W C N : Nat → Int32} {F : Mem} {g : Int32} {m : Nat} {f : Int32} (hP : Pre len d i a j l m f) (h14 : ¬ F 14 d = 4) (hK : Kn F d kn) :
    ∀ (n c i1 a1 : Nat) (P1 : Int32) (j1 l1 : Nat) (L1 f1 : Int32) (K1 W1 C1 N1 : Nat → Int32) (F1 : Mem) (t : Nat) (e : Den) (m1 : Nat), len < n + i1 → c < i1 → i1 ≤ len → m + i ≤ m1 + i1 → (f1 = 0 ∨ f1 = 1) → Ex i a j l L K W C N i1 a1 j1 l1 L1 K1 W1 C1 N1 t e → Fr 23 26 d F F1 → (F1 23 d = 0 ∧ F1 24 d = nI i ∧ F1 25 d = nI (t + 1) ∧ F1 26 d = P1) →
      ∃ ty σ1, Re_sum_b16 rc n (nI d) kn (nI i) (nI t) (nI c) (mkX p σ0 i1 0 a1 P1 j1 L1 f1 K1 W1) = some (ty, σ1) ∧ OutS p σ0 τ0 len k5 d m i a j l L K W C N F g ty σ1 (Mo_readConditions_b98 k5 m1 0 (mkM τ0 i1 0 g (nI d) l1 a1 f1 C1 N1 F1))
  | 0, c, i1, _, _, _, _, _, _, _, _, _, _, _, _, _, _, hn, _, hi, _, _, _, _, _ => by omega
  | n + 1, c, i1, a1, P1, j1, l1, L1, f1, K1, W1, C1, N1, F1, t, e, m1, hn, hc, hi, hm, hf, hE, hF, ⟨f23, f24, f25, f26⟩ => by
    have hlen := hC.2.1
    have hd : d < 8 := by have := hP.1; omega
    have hm1 : 1800 ≤ m1 := by have := hP.2.2.2.2.2.1; omega
    have hP1 := Pre_ex hP hE hi hm hf
    have n160 : ¬ (160 : Int32) ≤ nI c := nI_ge (a := c) (b := 160) (by omega) n31
    rcases (show i1 = len ∨ i1 < len by omega) with hi1 | hi1
    · subst hi1
      have hdd : Dead p σ0 i1 false (-10 - nI i1) (mkX p σ0 i1 0 a1 P1 j1 L1 f1 K1 W1) := Or.inr ⟨rfl, rfl, _, _, _, _, _, _, _, by have := hP1.2.2.1; omega, rfl⟩
      refine ⟨nI t, _, S_dead hC hdd (by omega) (by omega) _ _ _ _, Or.inl ?_⟩
      obtain ⟨q, rfl⟩ : ∃ q, m1 = q + 2 := ⟨m1 - 2, by omega⟩
      exact outR_i hdd (by have := hP1.2.2.1; have := hP1.2.2.2.1; omega) (L_end hC hd)
    · by_cases hb : σ0 16 i1 = 43 ∨ σ0 16 i1 = 45
      · obtain ⟨m2, rfl⟩ : ∃ q, m1 = q + 1 := ⟨m1 - 1, by omega⟩
        have hsn : isSn (σ0 16 i1) := by
          rcases hb with e | e
          · exact Or.inl e
          · exact Or.inr (Or.inl e)
        have hsg : isSg (σ0 16 i1) := by
          rcases hb with e | e
          · exact Or.inl e
          · exact Or.inr (Or.inl e)
        have hs0 : ¬ σ0 16 i1 = 0 := by
          rcases hb with e | e <;> rw [e] <;> decide
        have q : pmIn (nI d) 8 = true := pmIn_nI hd (by omega)
        have q2 : (nI d).toNatClampNeg = d := nI_clamp (by omega)
        have hgo : Mo_readConditions_b98 k5 (m2 + 1) 0 (mkM τ0 i1 0 g (nI d) l1 a1 f1 C1 N1 F1) = (if nI (t + 1) = 1 then Mo_goOn_b50 (σ0 16 i1) (nI d) (mkM τ0 i1 0 g (nI d) l1 a1 f1 C1 N1 F1) else (Mo_wrongType (nI i) (mkM τ0 i1 0 g (nI d) l1 a1 f1 C1 N1 F1)).bind fun q => Mo_goOn_b50 (σ0 16 i1) (nI d) q).bind (AF k5 m2 i1) := by
          rw [L_go hd, g_sum hC hi1 hb]
          unfold Mo_goOn_b30
          simp only [q, q2, if_true, M_F (c := 25) (by omega), M_F (c := 24) (by omega), f24, f25]
        have hcl : Re_sum_b16 rc (n + 1) (nI d) kn (nI i) (nI t) (nI c) (mkX p σ0 i1 0 a1 P1 j1 L1 f1 K1 W1) = Re_sum_b42 rc (Re_sum_b16 rc n) (nI d) kn (nI i) (nI t) (nI c) (mkX p σ0 i1 0 a1 P1 j1 L1 f1 K1 W1) := by
          rw [Re_sum_b16, if_neg n160, r_nx hC hi1, Option.bind_some]
          by_cases e : σ0 16 i1 = 43
          · rw [if_pos e]
          · rw [if_neg e, Option.bind_some, if_neg (fun z => z (hb.resolve_left e))]
        rw [hcl, hgo]
        unfold Re_sum_b42
        rw [r_nx hC hi1, Option.bind_some]
        have ht2 := hE.1.2.2.2.2.2.2
        rcases (show t = 0 ∨ t = 1 by omega) with rfl | rfl
        · rw [r_lk _ (show nI 0 = 0 from rfl), Option.bind_some, r_tk hC hi1 rfl, Option.bind_some, if_pos (show nI (0 + 1) = 1 from rfl), M_50 hd, Option.bind_some, AF_sn hC hi1 hsn]
          obtain ⟨G, hG, e1⟩ := L_1 (τ0 := τ0) (k5 := k5) (i := i1 + 1) (g := g) (l := l1) (a := a1) (f := f1) (C := C1) (N := N1) (F := mput F1 23 d (σ0 16 i1)) (m := m2) hd (by omega)
          rw [e1]
          have hF2 : Kn (mput F1 23 d (σ0 16 i1)) d kn := Kn_cg hK (fun u hu => by
            refine ⟨?_, ?_, ?_, ?_⟩ <;> (rw [mput_ne (by omega)]; exact hF _ u hu (by omega)))
          obtain ⟨ty, σ1, e2, o⟩ := hT kn (i1 + 1) a1 P1 j1 L1 f1 K1 W1 l1 C1 N1 (mput F1 23 d (σ0 16 i1)) g m2 FU G (Pre_s hP1 hi1 (by omega)) (by unfold FU; omega) hF2 hG
          rw [e2, Option.bind_some]
          have ep : (mkX p σ0 (i1 + 1) 0 a1 P1 j1 L1 f1 K1 W1) 15 3 = nI (i1 + 1) := rfl
          rcases o with ⟨ρ, τ1, o1, o2, o3⟩ | ⟨i2, a2, P2, j2, l2, L2, f2, K2, W2, C2, N2, F2, t2, e3, m3, k, G2, rfl, rfl, b1, b2, b3, b4, b5, b6, b7, b8⟩
          · have := S_42d (rc := rc) hC o1 (n := n) (c := c) (by omega) (by omega) (nI d) kn (nI i) ty (nI (i1 + 1)) (σ0 16 i1) rfl
            exact ⟨_, _, this.1, Or.inl ⟨ρ, τ1, dd_w this.2, o2, o3⟩⟩
          · rw [b8]
            have g14 : ¬ F2 14 d = 4 := by
              rw [b6 14 d (by omega) (by omega), mput_ne (by omega), hF 14 d (by omega) (by omega)]
              exact h14
            have g23 : F2 23 d = σ0 16 i1 := by rw [b6 23 d (by omega) (by omega), mput_eq]
            have hn23 : ¬ F2 23 d = 0 := by rw [g23]; exact hs0
            have hP2 := Pre_ex (Pre_s hP1 hi1 (m1 := m2) (by omega)) b5 b1 b2 b4
            have hl2 : l2 < 160 := by have := hP2.2.2.1; have := hP2.2.2.2.1; omega
            have hj2 : j2 < 160 := by have := hP2.2.2.1; omega
            obtain ⟨k, rfl⟩ : ∃ q, k = q + 1 := ⟨k - 1, by omega⟩
            have ht3 := b5.1.2.2.2.2.2.2
            rcases (show t2 = 0 ∨ t2 = 1 by omega) with rfl | rfl
            · rw [r_lk _ (show nI 0 = 0 from rfl), Option.bind_some]
              show ∃ ty σ1, (if isPo (ix (mkX p σ0 i2 0 a2 P2 j2 L2 f2 K2 W2 15 2)) then (Po_append (ix (mkX p σ0 i2 0 a2 P2 j2 L2 f2 K2 W2 15 2)) (σ0 16 i1) 0 (mkX p σ0 i2 0 a2 P2 j2 L2 f2 K2 W2)).bind fun q92 => Re_sum_b16 rc n (nI d) kn (nI i) (nI 0) (nI c + 1) (mput q92 15 6 0) else none) = some (ty, σ1) ∧ _
              rw [ct_ix hC, if_pos hC.1, p_ap hC.1 hj2, Option.bind_some, x_p6, nI_1, show nI (0 + 1) = 1 from rfl, eT_sg hd hl2 g14 hn23, Option.bind_some, b7 _ _ _ _ _ _ _ _ _ _ (Nat.le_refl _) (by omega) hd, g23]
              refine S_loop hC hT hD hP h14 hK n (c + 1) i2 a2 0 (j2 + 1) (l2 + 1) _ f2 _ _ _ _ _ 0 _ m3 ?_ ?_ b1 (by omega) b4 (Ex_bin hE b5 hsg (by omega) (fun z => by omega)) ?_ ⟨?_, ?_, ?_, mput_eq⟩
              · have := b5.1.1; omega
              · have := b5.1.1; omega
              · intro c u hu hc
                rw [mput_ne (by omega), mput_ne (by omega), b6 c u hu (by omega), mput_ne (by omega)]
                exact hF c u hu hc
              · rw [mput_ne (by omega), mput_eq]
              · rw [mput_ne (by omega), mput_ne (by omega), b6 24 d (by omega) (by omega), mput_ne (by omega)]
                exact f24
              · rw [mput_ne (by omega), mput_ne (by omega), b6 25 d (by omega) (by omega), mput_ne (by omega)]
                exact f25
            · have nz : (-1000 - nI (i1 + 1) : Int32) ≠ 0 := ne_sub (by omega) (Or.inr rfl)
              have hdd : Dead p σ0 len true (-1000 - nI (i1 + 1)) (mkX p σ0 i2 (-1000 - nI (i1 + 1)) a2 P2 j2 L2 f2 K2 W2) := Or.inl ⟨nz, _, _, _, _, _, _, _, _, by omega, by omega, rfl⟩
              have := S_42d (rc := rc) hC hdd (n := n) (c := c) (by omega) (by omega) (nI d) kn (nI i) (nI 1) (nI (i1 + 1)) (σ0 16 i1) rfl
              rw [ep, r_lkN _ (show ¬ nI 1 = 0 by decide), Option.bind_some]
              rw [dd_lk hdd, Option.bind_some] at this
              obtain ⟨l3, C3, N3, F3, u1, u2⟩ := eT_sgN (τ0 := τ0) (i := i2) (g := g) (l := l2) (a := a2) (f := f2) (C := C2) (N := N2) (F := F2) (k := k) (v4 := nI (1 + 1)) (v5 := P2) (v6 := nI (i1 + 1)) hd hl2 g14 hn23 (by decide)
              obtain ⟨m4, rfl⟩ : ∃ q, m3 = q + 1 := ⟨m3 - 1, by omega⟩
              rw [u2, Option.bind_some, b7 _ _ _ _ _ _ _ _ _ _ (Nat.le_refl _) (by omega) hd]
              exact ⟨_, _, this.1, Or.inl (outR_i (dd_w this.2) u1 (L_ref 0 nz))⟩
        · have nz : (-1000 - nI i : Int32) ≠ 0 := ne_sub (by have := hP.2.1; omega) (Or.inr rfl)
          have hdd : Dead p σ0 len true (-1000 - nI i) (mkX p σ0 i1 (-1000 - nI i) a1 P1 j1 L1 f1 K1 W1) := Or.inl ⟨nz, _, _, _, _, _, _, _, _, by have := hP1.2.2.1; omega, by omega, rfl⟩
          rw [r_lkN _ (show ¬ nI 1 = 0 by decide), Option.bind_some]
          obtain ⟨σ2, e2, h2⟩ := dd_tk hC hdd (ct_b hC hi1)
          rw [e2, Option.bind_some]
          obtain ⟨ty, σ3, e3, h3⟩ := hD (nI d) kn true _ σ2 h2
          rw [e3, Option.bind_some]
          have := S_42d (rc := rc) hC h3 (n := n) (c := c) (by omega) (by omega) (nI d) kn (nI i) ty (σ2 15 3) (σ0 16 i1) rfl
          rw [if_neg (by decide), M_wt, Option.bind_some, M_50 hd, Option.bind_some]
          obtain ⟨m4, rfl⟩ : ∃ q, m2 = q + 1 := ⟨m2 - 1, by omega⟩
          exact ⟨_, _, this.1, Or.inl (outR_i (dd_w this.2) (by have := hP1.2.2.1; have := hP1.2.2.2.1; omega) (AF_ref i1 nz))⟩
      · refine ⟨nI t, _, ?_, Or.inr ⟨i1, a1, P1, j1, l1, L1, f1, K1, W1, C1, N1, F1, t, e, m1, rfl, rfl, hi1, hm, hf, hE, hF, ⟨f23, f24, f25, f26⟩, hb, rfl⟩⟩
        rw [Re_sum_b16, if_neg n160, r_nx hC hi1, Option.bind_some, if_neg (fun z => hb (Or.inl z)), Option.bind_some, if_pos (fun z => hb (Or.inr z))]
theorem T_sum (hC : CT p σ0 τ0 len) (hT : TermP p σ0 τ0 len k5 (rc 4) d) (hD : DeadP p σ0 len rc 4) : SumP p σ0 τ0 len k5 (Re_sum rc) d := by
  intro kn i a P j L f K W l C N F g m nf G hP hnf h14 h23 hK hG
  have hlen := hC.2.1
  have hd : d < 8 := by have := hP.1; omega
  obtain ⟨ty, σ1, e1, o⟩ := hT kn i a P j L f K W l C N F g m nf G hP hnf hK hG
  unfold Re_sum
  rw [e1, Option.bind_some]
  show ∃ ty1 σ2, Re_sum_b16 rc FU (nI d) kn (nI i) ty (nI 0) σ1 = some (ty1, σ2) ∧ _
  rcases o with ⟨ρ, τ1, o1, o2, o3⟩ | ⟨i2, a2, P2, j2, l2, L2, f2, K2, W2, C2, N2, F2, t2, e3, m3, k, G2, rfl, rfl, b1, b2, b3, b4, b5, b6, b7, b8⟩
  · exact ⟨ty, σ1, S_dead hC o1 (by unfold FU; omega) (by omega) _ _ _ _, Or.inl ⟨ρ, τ1, dd_w o1, o2, o3⟩⟩
  · obtain ⟨k, rfl⟩ : ∃ q, k = q + 1 := ⟨k - 1, by omega⟩
    have g14 : ¬ F2 14 d = 4 := by
      rw [b6 14 d (by omega) (by omega)]
      exact h14
    have g23 : F2 23 d = 0 := by rw [b6 23 d (by omega) (by omega)]; exact h23
    rw [b8, eT_val hd g14 g23, Option.bind_some, b7 _ _ _ _ _ _ _ _ _ _ (Nat.le_refl _) (by omega) hd]
    refine S_loop hC hT hD hP h14 hK FU 0 i2 a2 P2 j2 l2 L2 f2 K2 W2 C2 N2 _ t2 e3 m3 (by unfold FU; omega) (by have := b5.1.1; omega) b1 b2 b4 b5 ?_ ⟨?_, mput_eq, ?_, ?_⟩
    · intro c u hu hc
      rw [mput_ne (by omega), mput_ne (by omega), mput_ne (by omega)]
      exact b6 c u hu (by omega)
    · rw [mput_ne (by omega), mput_ne (by omega), mput_ne (by omega)]
      exact g23
    · rw [mput_ne (by omega), mput_ne (by omega), mput_eq]
    · rw [mput_ne (by omega), mput_eq]
end
