theorem x_beg {p : Nat} (hp : isPo p) (σ : Mem) : mput (mput (mput (mput (mput (mput (mput (mput σ 15 2 (nI p)) p 9 0) p 1 1) p 3 0) p 12 (-1)) 15 3 0) 15 4 0) 15 5 0 = mkX p (mput (mput σ 15 2 (nI p)) p 12 (-1)) 0 0 0 (σ 15 6) 0 0 1 (σ (p + 1)) (σ (p + 2)) := by
  have := po_ne hp
  funext c k
  by_cases h1 : c = 15
  · subst h1
    have e : ¬ 15 = p := by omega
    unfold mkX mput
    simp only [e, if_false, if_true]
    by_cases a3 : k = 3
    · subst a3; rfl
    · by_cases a4 : k = 4
      · subst a4; rfl
      · by_cases a5 : k = 5
        · subst a5; rfl
        · by_cases a6 : k = 6
          · subst a6; rfl
          · simp only [a3, a4, a5, a6, if_false]
  · by_cases h2 : c = p
    · subst h2
      unfold mkX mput
      simp only [h1, if_false, if_true]
      by_cases a9 : k = 9
      · subst a9; rfl
      · by_cases a3 : k = 3
        · subst a3; rfl
        · by_cases a1 : k = 1
          · subst a1; rfl
          · simp only [a9, a3, a1, if_false]
    · unfold mkX
      simp only [h1, h2, if_false]
      rw [mput_ne (by omega), mput_ne (by omega), mput_ne (by omega), mput_ne (by omega), mput_ne (by omega), mput_ne (by omega), mput_ne (by omega), mput_ne (by omega), mput_ne (by omega), mput_ne (by omega)]
      by_cases h3 : c = p + 1
      · rw [if_pos h3, h3]
      · rw [if_neg h3]
        by_cases h4 : c = p + 2
        · rw [if_pos h4, h4]
        · rw [if_neg h4]
theorem m_beg (τ : Mem) : mput (mput (mput (mput (mput (mput (mput τ 0 14 0) 0 15 0) 0 16 0) 0 17 (-1)) 9 16 0) 10 16 1) 11 16 0 = mkM τ 0 0 0 (-1) 0 0 1 (fun q => τ 12 (2560 + q)) (fun q => τ 13 (2560 + q)) τ := by
  funext c k
  by_cases h0 : c = 0
  · subst h0
    unfold mkM mput
    simp only [if_true]
    by_cases a4 : k = 14
    · subst a4; rfl
    · by_cases a5 : k = 15
      · subst a5; rfl
      · by_cases a6 : k = 16
        · subst a6; rfl
        · by_cases a7 : k = 17
          · subst a7; rfl
          · simp only [a4, a5, a6, a7, if_false]
            simp
  · by_cases h9 : c = 9
    · subst h9
      unfold mkM mput
      by_cases a6 : k = 16
      · subst a6; rfl
      · simp [a6]
    · by_cases h10 : c = 10
      · subst h10
        unfold mkM mput
        by_cases a6 : k = 16
        · subst a6; rfl
        · simp [a6]
      · by_cases h11 : c = 11
        · subst h11
          unfold mkM mput
          by_cases a6 : k = 16
          · subst a6; rfl
          · simp [a6]
        · rw [mput_ne (by omega), mput_ne (by omega), mput_ne (by omega), mput_ne (by omega), mput_ne (by omega), mput_ne (by omega), mput_ne (by omega)]
          unfold mkM
          simp only [h0, h9, h10, h11, if_false]
          by_cases h12 : c = 12
          · subst h12
            rw [if_pos rfl]
            by_cases hk : k < 2560
            · rw [if_pos hk]
            · rw [if_neg hk, show 2560 + (k - 2560) = k by omega]
          · rw [if_neg h12]
            by_cases h13 : c = 13
            · subst h13
              rw [if_pos rfl]
              by_cases hk : k < 2560
              · rw [if_pos hk]
              · rw [if_neg hk, show 2560 + (k - 2560) = k by omega]
            · rw [if_neg h13, ite_self]
def BX (σ : Mem) (p : Nat) (σ0 : Mem) : Prop := (∀ c, c ≠ 15 → c ≠ p → σ0 c = σ c) ∧ σ0 15 1 = σ 15 1
def BM (τ τ0 : Mem) : Prop := (∀ c, c ≠ 7 → c ≠ 8 → τ0 c = τ c) ∧ (∀ q, q ≠ 16 → τ0 7 q = τ 7 q) ∧ ∀ q, q < 48 → τ0 8 q = τ 8 q
theorem BX_p {σ σ0 : Mem} {p : Nat} (hp : isPo p) (h : BX σ p σ0) (k : Nat) (v : Int32) : BX σ p (mput σ0 p k v) := by
  have := po_ne hp
  refine ⟨fun c a b => by rw [mrow_ne b]; exact h.1 c a b, by rw [mput_ne (by omega)]; exact h.2⟩
theorem BM_8 {τ τ0 τ1 : Mem} (h : BM τ τ0) (h8 : B8 τ0 τ1) : BM τ τ1 := by
  refine ⟨fun c a b => by rw [h8.1 c b]; exact h.1 c a b, fun q hq => by rw [h8.1 7 (by omega)]; exact h.2.1 q hq, fun q hq => by rw [h8.2 q hq]; exact h.2.2 q hq⟩
def FX (p : Nat) (σ σf : Mem) : Prop := (∀ c, c ≠ 15 → c ≠ p → c ≠ p + 1 → c ≠ p + 2 → σf c = σ c) ∧ σf 15 1 = σ 15 1
def FM (τ τf : Mem) : Prop := (∀ c, c ≠ 0 → (c < 7 ∨ 40 < c) → τf c = τ c) ∧ τf 0 4 = τ 0 4 ∧ ∀ q, q < 16 → EqP τf q τ q
section
variable {p : Nat} {σ σ0 τ τ0 : Mem} {i : Nat} {ρ : Int32} {a : Nat} {P : Int32} {j : Nat} {L f : Int32} {K W : Nat → Int32} {g top : Int32} {l : Nat} {C N : Nat → Int32} {F : Mem}
theorem FX_i (h : BX σ p σ0) : FX p σ (mkX p σ0 i ρ a P j L f K W) := by
  refine ⟨fun c a1 a2 a3 a4 => ?_, ?_⟩
  · funext k
    unfold mkX
    rw [if_neg a1, if_neg a2, if_neg a3, if_neg a4, h.1 c a1 a2]
  · rw [x_len]
    exact h.2
theorem FM_i (h : BM τ τ0) : FM τ (mkM τ0 i ρ g top l a f C N F) := by
  refine ⟨fun c h0 hc => ?_, ?_, fun q hq => ⟨?_, ?_, ?_, ?_, fun k hk => ?_, fun k hk => ⟨?_, ?_⟩⟩⟩
  · funext k
    unfold mkM
    rw [if_neg h0, if_neg (by omega), if_neg (by omega), if_neg (by omega), if_neg (by omega), if_neg (by omega), if_neg (by omega), h.1 c (by omega) (by omega)]
  · rw [M_n, h.1 0 (by omega) (by omega)]
  · show τ0 7 q = τ 7 q
    exact h.2.1 q (by omega)
  · show (if q = 16 then nI a else τ0 9 q) = τ 9 q
    rw [if_neg (by omega), h.1 9 (by omega) (by omega)]
  · show (if q = 16 then f else τ0 10 q) = τ 10 q
    rw [if_neg (by omega), h.1 10 (by omega) (by omega)]
  · show (if q = 16 then nI l else τ0 11 q) = τ 11 q
    rw [if_neg (by omega), h.1 11 (by omega) (by omega)]
  · show τ0 8 (3 * q + k) = τ 8 (3 * q + k)
    exact h.2.2 _ (by omega)
  · show (if 160 * q + k < 2560 then τ0 12 (160 * q + k) else C (160 * q + k - 2560)) = τ 12 (160 * q + k)
    rw [if_pos (by omega), h.1 12 (by omega) (by omega)]
  · show (if 160 * q + k < 2560 then τ0 13 (160 * q + k) else N (160 * q + k - 2560)) = τ 13 (160 * q + k)
    rw [if_pos (by omega), h.1 13 (by omega) (by omega)]
theorem FX_d {len : Nat} {b : Bool} {σ1 : Mem} (h : BX σ p σ0) (hd : Dead p σ0 len b ρ σ1) : FX p σ σ1 := by
  rcases hd with ⟨h0, i, a, P, j, L, f, K, W, hj, hi, rfl⟩ | ⟨hb, e, a, P, j, L, f, K, W, hj, rfl⟩
  · exact FX_i h
  · exact FX_i h
theorem x_pk (hp : isPo p) {k : Nat} (hk : k ≠ 9 ∧ k ≠ 3 ∧ k ≠ 1) : mkX p σ0 i ρ a P j L f K W p k = σ0 p k := by
  have := po_ne hp
  unfold mkX
  rw [if_neg (by omega), if_pos rfl, if_neg hk.1, if_neg hk.2.1, if_neg hk.2.2]
theorem x_sf (hp : isPo p) : mkX p σ0 i ρ a P j L f K W p 1 = f := by
  have := po_ne hp
  unfold mkX
  rw [if_neg (by omega), if_pos rfl, if_neg (by omega), if_neg (by omega), if_pos rfl]
theorem x_Kr (hp : isPo p) : mkX p σ0 i ρ a P j L f K W (p + 1) = K := by
  have := po_ne hp
  funext k
  unfold mkX
  rw [if_neg (by omega), if_neg (by omega), if_pos rfl]
theorem x_Wr (hp : isPo p) : mkX p σ0 i ρ a P j L f K W (p + 2) = W := by
  have := po_ne hp
  funext k
  unfold mkX
  rw [if_neg (by omega), if_neg (by omega), if_neg (by omega), if_pos rfl]
theorem M_C (q : Nat) : mkM τ0 i ρ g top l a f C N F 12 (2560 + q) = C q := by
  show (if 2560 + q < 2560 then τ0 12 (2560 + q) else C (2560 + q - 2560)) = C q
  rw [if_neg (by omega), Nat.add_sub_cancel_left]
end
def RdOk (p : Nat) (σf τf : Mem) : Prop := ∃ cs, PolX σf p cs ∧ PolM τf 16 cs ∧ DepW cs ∧ DepL (σf p 3) cs ∧ PolS σf τf p 16 ∧ σf p 12 = -1
def RdOut (p : Nat) (σ τ σf τf : Mem) (r : Int32) : Prop := FX p σ σf ∧ FM τ τf ∧ τf 0 15 = r ∧ (r = 0 → RdOk p σf τf)
section
variable {p : Nat} {σ τ σ0 τ0 : Mem} {len : Nat} {ρ : Int32}
theorem b133_d (hC : CT p σ0 τ0 len) {σ1 : Mem} (h : Dead p σ0 len true ρ σ1) : Re_read_b133 σ1 = some (ρ, mput σ1 p 2 (σ1 15 5)) := by
  have hp := po_ne hC.1
  unfold Re_read_b133
  rw [dd_ix hC h, if_pos hC.1, mput_ne (by omega)]
  rcases h with ⟨h0, i, a, P, j, L, f, K, W, hj, hi, rfl⟩ | ⟨hb, -⟩
  · rfl
  · cases hb
theorem FX_p {σ1 : Mem} (hp : isPo p) (h : FX p σ σ1) (k : Nat) (v : Int32) : FX p σ (mput σ1 p k v) := by
  have := po_ne hp
  exact ⟨fun c a1 a2 a3 a4 => by rw [mrow_ne a2]; exact h.1 c a1 a2 a3 a4, by rw [mput_ne (by omega)]; exact h.2⟩
/-- the class goes on dead through the scopes and the conditions -/
theorem R_dead (hC : CT p σ0 τ0 len) (hB : BX σ p σ0) {b : Bool} {σ1 : Mem} (h : Dead p σ0 len b ρ σ1) : ∃ σf, Re_read_b72 σ1 = some (ρ, σf) ∧ FX p σ σf := by
  have hp := hC.1
  have k4 : (4 : Nat) ≠ 9 ∧ (4 : Nat) ≠ 3 ∧ (4 : Nat) ≠ 1 := by omega
  have k5 : (5 : Nat) ≠ 9 ∧ (5 : Nat) ≠ 3 ∧ (5 : Nat) ≠ 1 := by omega
  have k6 : (6 : Nat) ≠ 9 ∧ (6 : Nat) ≠ 3 ∧ (6 : Nat) ≠ 1 := by omega
  obtain ⟨s1, q1, e1, h1⟩ := scope_d hC h 1
  have C1 := CT_x hC 4 s1
  have d1 := dd_q hp h1 k4 s1
  obtain ⟨s2, q2, e2, h2⟩ := scope_d C1 d1 0
  have C2 := CT_x C1 5 s2
  have d2 := dd_q hp h2 k5 s2
  obtain ⟨s3, q3, e3, h3⟩ := scope_d C2 d2 1
  have C3 := CT_x C2 6 s3
  have d3 := dd_q hp h3 k6 s3
  obtain ⟨σf, e4, h4⟩ := c4_d C3 d3 (n := FU) (c := 0) (by unfold FU; omega) (by omega) 0
  rw [b72_eq hp (dd_ix hC h) e1 (dd_ix C1 d1) e2 (dd_ix C2 d2) e3, e4, Option.bind_some, b133_d C3 h4]
  exact ⟨_, rfl, FX_p hp (FX_d (BX_p hp (BX_p hp (BX_p hp hB 4 s1) 5 s2) 6 s3) h4) 2 _⟩
theorem R_live (hC : CT p σ0 τ0 len) (hB : BX σ p σ0) (hM : BM τ τ0) (h1 : 1 ≤ len) (h12 : σ0 p 12 = -1) (h0 : τ0 7 16 = σ0 p 0 ∧ (σ0 p 0 = 0 ∨ σ0 p 0 = 1)) {P : Int32} {K W C N : Nat → Int32} {F : Mem} (v1 : Int32) :
    ∃ r σf τf, Re_read_b72 (mkX p σ0 1 0 0 P 0 0 1 K W) = some (r, σf) ∧ Mo_add_b103 FU v1 (nI 0) (mkM τ0 1 0 0 (-1) 0 0 1 C N F) = Mo_add_b137 v1 τf ∧ RdOut p σ τ σf τf r := by
  have hp := hC.1
  have hpp := po_ne hp
  have hlen := hC.2.1
  obtain ⟨s1, q1, s2, q2, s3, q3, e1, i1, e2, i2, e3, o⟩ := T_scopes (a := 0) (P := P) (j := 0) (L := 0) (f := 1) (K := K) (W := W) (g := 0) (top := -1) (l := 0) (C := C) (N := N) (F := F) hC h1 (by omega)
  rw [b72_eq hp (ct_ix hC) e1 i1 e2 i2 e3]
  have B3 := BX_p hp (BX_p hp (BX_p hp hB 4 s1) 5 s2) 6 s3
  have C3 := CT_x (CT_x (CT_x hC 4 s1) 5 s2) 6 s3
  rcases o with ⟨ρ, τ1, j2, d3, t1, t2⟩ | ⟨i3, x1, x2, x3, ⟨x4, x5, x6⟩, t2⟩
  · obtain ⟨σf, e4, h4⟩ := c4_d C3 d3 (n := FU) (c := 0) (by unfold FU; omega) (by omega) 0
    rw [e4, Option.bind_some, b133_d C3 h4]
    exact ⟨ρ, _, _, rfl, t2 2096 v1, FX_p hp (FX_d B3 h4) 2 _, FM_i (BM_8 hM t1), rfl, fun z => absurd z (dd_ne C3 h4)⟩
  · have CM := CT_m (CT_m (CT_m C3 (c := 8) (Or.inr rfl) 48 s1) (c := 8) (Or.inr rfl) 49 s2) (c := 8) (Or.inr rfl) 50 s3
    have BM3 : BM τ (mput (mput (mput τ0 8 48 s1) 8 49 s2) 8 50 s3) := BM_8 hM (B8_p (B8_p (B8_p (B8_rf τ0) (k := 48) (by omega) s1) (k := 49) (by omega) s2) (k := 50) (by omega) s3)
    obtain ⟨σf, τf, u1, u2, o⟩ := D_loop CM FU 0 i3 0 P 0 0 1 K W 0 C N F 0 (-1) FU (by unfold FU; omega) (by omega) x3 (by omega) (by omega) (by omega) (Or.inr rfl) (by unfold FU; omega)
    have et : Mo_add_b103 FU v1 (nI 0) (mkM τ0 1 0 0 (-1) 0 0 1 C N F) = Mo_add_b137 v1 τf := by
      rw [show FU = 2096 + 4 from rfl, t2 2096 v1]
      unfold Mo_readConditions
      rw [u2, Option.bind_some]
    rw [x1, u1, Option.bind_some, et]
    rcases o with ⟨ρ, o1, o2⟩ | ⟨j1, j2, a1, P1, j3, l1, L1, f1, K1, W1, C1, N1, F1, g1, top1, cs, rfl, rfl, ⟨y1, y2, y3, y4⟩, y5, y6, y7, -, -, -⟩
    · rw [b133_d CM o1]
      obtain ⟨k1, k2, k3, k4, k5, k6, k7, k8, k9, -, rfl⟩ := o2
      exact ⟨ρ, _, _, rfl, rfl, FX_p hp (FX_d B3 o1) 2 _, FM_i BM3, rfl, fun z => absurd z (dd_ne CM o1)⟩
    · have eb : ∀ σ3, CT p σ3 τ0 len → Re_read_b133 (mkX p σ3 j1 0 a1 P1 j3 L1 f1 K1 W1) = some (0, mkX p (mput σ3 p 2 (nI a1)) j1 0 a1 P1 j3 L1 f1 K1 W1) := fun σ3 h => by
        unfold Re_read_b133
        rw [ct_ix h, if_pos hp, x_atm, x_q hp (by omega)]
        rfl
      rw [eb _ C3]
      refine ⟨0, _, _, rfl, rfl, FX_i (BX_p hp B3 2 _), FM_i BM3, rfl, fun _ => ⟨cs, ⟨j3, x_stp hp, y1, ?_⟩, ⟨l1, M_l, y2, ?_⟩, DepCs_W cs y7, ?_, ⟨⟨?_, ?_, ?_⟩, ⟨?_, ?_, ?_⟩, ⟨?_, ?_⟩, ⟨?_, ?_⟩, ?_⟩, ?_⟩⟩
      · rw [x_Kr hp, x_Wr hp]
        exact y5
      · refine CondsM_cg cs 0 y6 (fun q _ _ => ⟨M_C q, M_N q⟩)
      · rw [x_lk hp]
        exact DepCs_L cs y7
      · rw [x_pk hp (by omega), mput_ne (by omega), mput_ne (by omega), mput_ne (by omega), mput_eq]
        exact x4
      · rw [x_pk hp (by omega), mput_ne (by omega), mput_ne (by omega), mput_eq]
        exact x5
      · rw [x_pk hp (by omega), mput_ne (by omega), mput_eq]
        exact x6
      · rw [x_pk hp (by omega), mput_ne (by omega), mput_ne (by omega), mput_ne (by omega), mput_eq]
        show mput (mput (mput τ0 8 48 s1) 8 49 s2) 8 50 s3 8 48 = s1
        rw [mput_ne (by omega), mput_ne (by omega), mput_eq]
      · rw [x_pk hp (by omega), mput_ne (by omega), mput_ne (by omega), mput_eq]
        show mput (mput (mput τ0 8 48 s1) 8 49 s2) 8 50 s3 8 49 = s2
        rw [mput_ne (by omega), mput_eq]
      · rw [x_pk hp (by omega), mput_ne (by omega), mput_eq]
        show mput (mput (mput τ0 8 48 s1) 8 49 s2) 8 50 s3 8 50 = s3
        rw [mput_eq]
      · rw [x_pk hp (by omega), mput_ne (by omega), mput_ne (by omega), mput_ne (by omega), mput_ne (by omega)]
        show mput (mput (mput τ0 8 48 s1) 8 49 s2) 8 50 s3 7 16 = σ0 p 0
        rw [mput_ne (by omega), mput_ne (by omega), mput_ne (by omega)]
        exact h0.1
      · rw [x_pk hp (by omega), mput_ne (by omega), mput_ne (by omega), mput_ne (by omega), mput_ne (by omega)]
        exact h0.2
      · rw [x_sf hp]
        rfl
      · rw [x_sf hp]
        exact y4
      · rw [x_pk hp (by omega), mput_eq]
        rfl
      · rw [x_pk hp (by omega), mput_ne (by omega), mput_ne (by omega), mput_ne (by omega), mput_ne (by omega)]
        exact h12
theorem T_read {s : Nat} (hT : RelT σ τ) (hp : isPo p) (hs : s < 2) : ∃ r σf τf, Re_read p σ = some (r, σf) ∧ Mo_add (nI s) τ = Mo_add_b137 (nI s) τf ∧ RdOut p σ τ σf τf r := by
  have hpp := po_ne hp
  obtain ⟨len, hl, t1, t2, t3⟩ := hT
  have k0 : (0 : Nat) ≠ 9 ∧ (0 : Nat) ≠ 3 ∧ (0 : Nat) ≠ 1 := by omega
  have hB : BX σ p (mput (mput σ 15 2 (nI p)) p 12 (-1)) := by
    refine ⟨fun c a b => by rw [mrow_ne b, mrow_ne a], by rw [mput_ne (by omega), mput_ne (by omega)]⟩
  have hC : CT p (mput (mput σ 15 2 (nI p)) p 12 (-1)) τ len := by
    refine ⟨hp, hl, by rw [mput_ne (by omega), mput_ne (by omega)]; exact t1, by rw [mput_ne (by omega), mput_eq], t2, fun k hk => ?_⟩
    rw [mput_ne (by omega), mput_ne (by omega)]
    exact t3 k hk
  have hb12 : mput (mput σ 15 2 (nI p)) p 12 (-1) p 12 = -1 := mput_eq
  have htx : ∀ k, mput (mput σ 15 2 (nI p)) p 12 (-1) 16 k = σ 16 k := fun k => by rw [mput_ne (by omega), mput_ne (by omega)]
  -- the class: up to the sign
  have hix : ix ((mput σ 15 2 (nI p)) 15 2) = p := by rw [mput_eq]; exact ix_nI (by omega)
  have ecl : Re_read p σ = (Re_next (mkX p (mput (mput σ 15 2 (nI p)) p 12 (-1)) 0 0 0 (σ 15 6) 0 0 1 (σ (p + 1)) (σ (p + 2)))).bind fun q32 => Re_read_b45 p (if ¬ q32 = 43 then 0 else 1) (mkX p (mput (mput σ 15 2 (nI p)) p 12 (-1)) 0 0 0 (σ 15 6) 0 0 1 (σ (p + 1)) (σ (p + 2))) := by
    unfold Re_read Po_begin
    rw [hix, if_pos hp, Option.bind_some, x_beg hp, ct_ix hC, if_pos hp]
    congr 1
    funext q
    by_cases h : q = 43
    · rw [if_neg (fun z => z h), if_neg (fun z => z h)]
    · rw [if_pos h, if_pos h]
  have e45 : ∀ s1 : Int32, (s1 = 0 ∨ s1 = 1) → Re_read_b45 p s1 (mkX p (mput (mput σ 15 2 (nI p)) p 12 (-1)) 0 0 0 (σ 15 6) 0 0 1 (σ (p + 1)) (σ (p + 2))) = (Re_next (mkX p (mput (mput (mput σ 15 2 (nI p)) p 12 (-1)) p 0 s1) 0 0 0 (σ 15 6) 0 0 1 (σ (p + 1)) (σ (p + 2)))).bind fun q49 => if ¬ q49 = 45 then (Re_take 43 (mkX p (mput (mput (mput σ 15 2 (nI p)) p 12 (-1)) p 0 s1) 0 0 0 (σ 15 6) 0 0 1 (σ (p + 1)) (σ (p + 2)))).bind fun q69 => Re_read_b72 q69 else (Re_take 45 (mkX p (mput (mput (mput σ 15 2 (nI p)) p 12 (-1)) p 0 s1) 0 0 0 (σ 15 6) 0 0 1 (σ (p + 1)) (σ (p + 2)))).bind fun q60 => Re_read_b72 q60 := fun s1 h => by
    unfold Re_read_b45
    rw [if_pos (bz01 h), x_q hp k0]
  -- the reference: up to the sign
  have erf : Mo_add (nI s) τ = (Mo_here (mkM τ 0 0 0 (-1) 0 0 1 (fun q => τ 12 (2560 + q)) (fun q => τ 13 (2560 + q)) τ)).bind fun q57 => if q57.1 = 43 then Mo_add_b78 (nI s) q57.1 q57.2 else if q57.1 = 45 then Mo_add_b78 (nI s) q57.1 q57.2 else (Mo_blame 0 q57.2).bind fun q75 => Mo_add_b78 (nI s) q57.1 q75 := by
    unfold Mo_add
    rw [if_neg (nI_pos (by omega)), if_pos (show nI s ≤ 1 from nI_le (b := 1) (by omega) (by omega)), if_pos (by decide), if_pos (by decide), if_pos (by decide), m_beg]
  have e78 : ∀ (v2 ρ1 : Int32), Mo_add_b78 (nI s) v2 (mkM τ 0 ρ1 0 (-1) 0 0 1 (fun q => τ 12 (2560 + q)) (fun q => τ 13 (2560 + q)) τ) = Mo_add_b103 FU (nI s) (nI 0) (mkM (mput τ 7 16 (if ¬ v2 = 43 then 0 else 1)) 1 ρ1 0 (-1) 0 0 1 (fun q => τ 12 (2560 + q)) (fun q => τ 13 (2560 + q)) τ) := fun v2 ρ1 => by
    unfold Mo_add_b78 Mo_add_b95
    have q1 : pmIn 16 17 = true := by decide
    have q2 : (16 : Int32).toNatClampNeg = 16 := by decide
    have q3 : (1 : Int32) = nI 1 := rfl
    by_cases h : v2 = 43
    · rw [if_neg (show ¬ ¬ v2 = 43 from fun z => z h), if_neg (show ¬ ¬ v2 = 43 from fun z => z h), if_pos q1, if_pos (by decide), q2, M_q (Or.inl rfl)]
      rw [show mput (mkM (mput τ 7 16 1) 0 ρ1 0 (-1) 0 0 1 (fun q => τ 12 (2560 + q)) (fun q => τ 13 (2560 + q)) τ) 0 14 1 = mkM (mput τ 7 16 1) 1 ρ1 0 (-1) 0 0 1 (fun q => τ 12 (2560 + q)) (fun q => τ 13 (2560 + q)) τ from M_p14 1]
      rfl
    · rw [if_pos (show ¬ v2 = 43 from h), if_pos (show ¬ v2 = 43 from h), if_pos q1, if_pos (by decide), q2, M_q (Or.inl rfl)]
      rw [show mput (mkM (mput τ 7 16 0) 0 ρ1 0 (-1) 0 0 1 (fun q => τ 12 (2560 + q)) (fun q => τ 13 (2560 + q)) τ) 0 14 1 = mkM (mput τ 7 16 0) 1 ρ1 0 (-1) 0 0 1 (fun q => τ 12 (2560 + q)) (fun q => τ 13 (2560 + q)) τ from M_p14 1]
      rfl
  have bm7 : ∀ v, BM τ (mput τ 7 16 v) := fun v => ⟨fun c a b => mrow_ne a, fun q hq => mput_ne (by omega), fun q hq => mput_ne (by omega)⟩
  -- a refusal at the sign
  have bad : ∀ (σ1 : Mem) (b : Bool) (ρ1 v2 : Int32), Dead p (mput (mput (mput σ 15 2 (nI p)) p 12 (-1)) p 0 0) len b ρ1 σ1 → ∃ r σf τf, Re_read_b72 σ1 = some (r, σf) ∧ Mo_add_b78 (nI s) v2 (mkM τ 0 ρ1 0 (-1) 0 0 1 (fun q => τ 12 (2560 + q)) (fun q => τ 13 (2560 + q)) τ) = Mo_add_b137 (nI s) τf ∧ RdOut p σ τ σf τf r := by
    intro σ1 b ρ1 v2 hd
    have C0 := CT_x hC 0 0
    have hρ := dd_ne C0 hd
    obtain ⟨σf, u1, u2⟩ := R_dead C0 (BX_p hp hB 0 0) hd
    refine ⟨ρ1, σf, _, u1, (e78 v2 ρ1).trans (b103_r 2099 (nI s) (nI 0) hρ), u2, FM_i (bm7 _), rfl, fun z => absurd z hρ⟩
  rw [ecl, erf]
  rcases (show len = 0 ∨ 0 < len by omega) with h0 | h0
  · subst h0
    have C0 := CT_x hC 0 0
    have hdd : Dead p (mput (mput (mput σ 15 2 (nI p)) p 12 (-1)) p 0 0) 0 false (-10 - nI 0) (mkX p (mput (mput (mput σ 15 2 (nI p)) p 12 (-1)) p 0 0) 0 0 0 (σ 15 6) 0 0 1 (σ (p + 1)) (σ (p + 2))) := Or.inr ⟨rfl, rfl, _, _, _, _, _, _, _, by omega, rfl⟩
    obtain ⟨σ2, e2, h2⟩ := dd_tk C0 hdd (v := 43) (by decide)
    rw [r_nxE hC, Option.bind_some, if_pos (show ¬ (-1 : Int32) = 43 by decide), e45 0 (Or.inl rfl), r_nxE C0, Option.bind_some, if_pos (show ¬ (-1 : Int32) = 45 by decide), e2, Option.bind_some, M_hereE hC, Option.bind_some]
    show ∃ r σf τf, _ ∧ (if (-1 : Int32) = 43 then _ else if (-1 : Int32) = 45 then _ else (Mo_blame 0 (mkM τ 0 (-10 - nI 0) 0 (-1) 0 0 1 (fun q => τ 12 (2560 + q)) (fun q => τ 13 (2560 + q)) τ)).bind fun q75 => Mo_add_b78 (nI s) (-1) q75) = _ ∧ _
    rw [if_neg (by decide), if_neg (by decide), M_blameR _ (dd_ne C0 h2), Option.bind_some]
    exact bad σ2 true _ (-1) h2
  · rw [r_nx hC h0, Option.bind_some, htx, M_here hC h0, Option.bind_some]
    show ∃ r σf τf, _ ∧ (if (mput (mput σ 15 2 (nI p)) p 12 (-1)) 16 0 = 43 then Mo_add_b78 (nI s) ((mput (mput σ 15 2 (nI p)) p 12 (-1)) 16 0) (mkM τ 0 0 0 (-1) 0 0 1 (fun q => τ 12 (2560 + q)) (fun q => τ 13 (2560 + q)) τ) else if (mput (mput σ 15 2 (nI p)) p 12 (-1)) 16 0 = 45 then Mo_add_b78 (nI s) ((mput (mput σ 15 2 (nI p)) p 12 (-1)) 16 0) (mkM τ 0 0 0 (-1) 0 0 1 (fun q => τ 12 (2560 + q)) (fun q => τ 13 (2560 + q)) τ) else (Mo_blame 0 (mkM τ 0 0 0 (-1) 0 0 1 (fun q => τ 12 (2560 + q)) (fun q => τ 13 (2560 + q)) τ)).bind fun q75 => Mo_add_b78 (nI s) ((mput (mput σ 15 2 (nI p)) p 12 (-1)) 16 0) q75) = _ ∧ _
    rw [htx]
    have htx2 : ∀ v k, mput (mput (mput σ 15 2 (nI p)) p 12 (-1)) p 0 v 16 k = σ 16 k := fun v k => by rw [mput_ne (by omega)]; exact htx k
    have good : ∀ v : Int32, (v = 0 ∨ v = 1) → ∃ r σf τf, Re_read_b72 (mkX p (mput (mput (mput σ 15 2 (nI p)) p 12 (-1)) p 0 v) 1 0 0 (σ 15 6) 0 0 1 (σ (p + 1)) (σ (p + 2))) = some (r, σf) ∧ Mo_add_b103 FU (nI s) (nI 0) (mkM (mput τ 7 16 v) 1 0 0 (-1) 0 0 1 (fun q => τ 12 (2560 + q)) (fun q => τ 13 (2560 + q)) τ) = Mo_add_b137 (nI s) τf ∧ RdOut p σ τ σf τf r := by
      intro v hv
      refine R_live (CT_m (CT_x hC 0 v) (c := 7) (Or.inl rfl) 16 v) (BX_p hp hB 0 v) (bm7 v) h0 (by rw [mput_ne (by omega)]; exact hb12) ⟨?_, ?_⟩ (nI s)
      · rw [mput_eq, mput_eq]
      · rw [mput_eq]
        exact hv
    by_cases h43 : σ 16 0 = 43
    · rw [if_neg (fun z => z h43), e45 1 (Or.inr rfl), r_nx (CT_x hC 0 1) h0, Option.bind_some, htx2, if_pos (by rw [h43]; decide), r_tk (CT_x hC 0 1) h0 (by rw [htx2]; exact h43), Option.bind_some, if_pos h43, e78, if_neg (fun z => z h43)]
      exact good 1 (Or.inr rfl)
    · rw [if_pos h43, e45 0 (Or.inl rfl), r_nx (CT_x hC 0 0) h0, Option.bind_some, htx2, if_neg h43]
      by_cases h45 : σ 16 0 = 45
      · rw [if_neg (fun z => z h45), r_tk (CT_x hC 0 0) h0 (by rw [htx2]; exact h45), Option.bind_some, if_pos h45, e78, if_pos h43]
        exact good 0 (Or.inl rfl)
      · rw [if_pos h45, r_tkN (CT_x hC 0 0) h0 (by rw [htx2]; exact h43), Option.bind_some, if_neg h45, M_blame, Option.bind_some]
        exact bad _ true _ _ (Or.inl ⟨by decide, _, _, _, _, _, _, _, _, by omega, by omega, rfl⟩)
end
