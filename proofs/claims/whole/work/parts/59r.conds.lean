def cF (σ : Mem) : Option Mem := (Re_take 59 σ).bind fun q115 => if (q115 15 1) ≤ (q115 15 3) then some q115 else Re_refuseByte q115
def DepCs (L : Int32) : List (Den × Bool) → Prop
  | [] => True
  | (e, _) :: cs => DepE L e ∧ DepCs L cs
theorem DepCs_W {L : Int32} : ∀ (cs : List (Den × Bool)), DepCs L cs → DepW cs
  | [], _ => fun _ _ _ _ => rfl
  | (e, u) :: cs, h => fun σ σ1 r hw => by
    show (match e σ1 r with | none => 2 | some v => if (v = 0 ↔ u = true) then vd cs σ1 r else 0) = (match e σ r with | none => 2 | some v => if (v = 0 ↔ u = true) then vd cs σ r else 0)
    rw [h.1.1 σ σ1 r hw, DepCs_W cs h.2 σ σ1 r hw]
theorem DepCs_L {L : Int32} : ∀ (cs : List (Den × Bool)), DepCs L cs → DepL L cs
  | [], _ => fun _ _ _ _ _ _ _ _ _ => rfl
  | (e, u) :: cs, h => fun σw r r1 a b c d f g => by
    show (match e σw r with | none => 2 | some v => if (v = 0 ↔ u = true) then vd cs σw r else 0) = (match e σw r1 with | none => 2 | some v => if (v = 0 ↔ u = true) then vd cs σw r1 else 0)
    rw [h.1.2 σw r r1 a b c d f g, DepCs_L cs h.2 σw r r1 a b c d f g]
def CondOut (p : Nat) (σ0 τ0 : Mem) (len j l : Nat) (L : Int32) (K W C N : Nat → Int32) (σf τf : Mem) : Prop :=
  (∃ ρ, Dead p σ0 len true ρ σf ∧ RefM τ0 ρ τf) ∨
  (∃ i1 i2 a1 P1 j1 l1 L1 f1 K1 W1 C1 N1 F1 g1 top1 cs, σf = mkX p σ0 i1 0 a1 P1 j1 L1 f1 K1 W1 ∧ τf = mkM τ0 i2 0 g1 top1 l1 a1 f1 C1 N1 F1 ∧ (j1 ≤ 160 ∧ l1 ≤ 160 ∧ a1 ≤ 12 ∧ (f1 = 0 ∨ f1 = 1)) ∧ CondsX K1 W1 j1 j cs ∧ CondsM C1 N1 l1 l cs ∧ DepCs L1 cs ∧ (∃ x, L1 = L ||| x) ∧ (∀ q, q < j → K1 q = K q ∧ W1 q = W q) ∧ (∀ q, q < l → C1 q = C q ∧ N1 q = N q))
section
variable {p : Nat} {σ0 τ0 : Mem} {len : Nat}
theorem cF_d (hC : CT p σ0 τ0 len) {b : Bool} {ρ : Int32} {σ : Mem} (h : Dead p σ0 len b ρ σ) : ∃ σf, cF σ = some σf ∧ Dead p σ0 len true ρ σf := by
  obtain ⟨σ1, e1, h1⟩ := dd_tk hC h (v := 59) (by decide)
  unfold cF
  rw [e1, Option.bind_some]
  by_cases hx : (σ1 15 1) ≤ (σ1 15 3)
  · rw [if_pos hx]
    exact ⟨_, rfl, h1⟩
  · rw [if_neg hx]
    exact dd_rb hC h1
theorem c4_d (hC : CT p σ0 τ0 len) {b : Bool} {ρ : Int32} {σ : Mem} (h : Dead p σ0 len b ρ σ) {n c : Nat} (hn : 1 ≤ n) (hc : c < 160) (v : Int32) : ∃ σf, (Re_conditions_b4 n v (nI c) σ).bind cF = some σf ∧ Dead p σ0 len true ρ σf := by
  obtain ⟨n, rfl⟩ : ∃ q, n = q + 1 := ⟨n - 1, by omega⟩
  rw [Re_conditions_b4, if_neg (show ¬ (160 : Int32) ≤ nI c from nI_ge (a := c) (b := 160) hc n31), dd_nx hC h, Option.bind_some, if_neg (by decide), Option.bind_some, if_pos (by decide), Option.bind_some]
  exact cF_d hC h
theorem c113_d (hC : CT p σ0 τ0 len) {b : Bool} {ρ : Int32} {σ : Mem} (h : Dead p σ0 len b ρ σ) {n c : Nat} (hn : 1 ≤ n) (hc : c + 1 < 160) (v : Int32) : ∃ σf, (Re_conditions_b113 (Re_conditions_b4 n) v (nI c) σ).bind cF = some σf ∧ Dead p σ0 len true ρ σf := by
  obtain ⟨σ1, e1, h1⟩ := dd_ap hC h 63 0
  unfold Re_conditions_b113
  rw [dd_ix hC h, if_pos hC.1, e1, Option.bind_some, nI_1]
  exact c4_d hC h1 hn hc v
theorem c86_d (hC : CT p σ0 τ0 len) {b : Bool} {ρ : Int32} {σ : Mem} (h : Dead p σ0 len b ρ σ) {n c : Nat} (hn : 1 ≤ n) (hc : c + 1 < 160) (v s : Int32) : ∃ σf, (if s = 0 then Re_conditions_b113 (Re_conditions_b4 n) (v ||| (σ 15 6)) (nI c) σ else if isPo (ix (σ 15 2)) then (Po_append (ix (σ 15 2)) 33 0 σ).bind fun q100 => Re_conditions_b113 (Re_conditions_b4 n) v (nI c) q100 else none).bind cF = some σf ∧ Dead p σ0 len true ρ σf := by
  by_cases hs : s = 0
  · rw [if_pos hs]
    exact c113_d hC h hn hc _
  · obtain ⟨σ1, e1, h1⟩ := dd_ap hC h 33 0
    rw [if_neg hs, dd_ix hC h, if_pos hC.1, e1, Option.bind_some]
    exact c113_d hC h1 hn hc _
theorem c69_d (hC : CT p σ0 τ0 len) {b : Bool} {ρ : Int32} {σ : Mem} (h : Dead p σ0 len b ρ σ) {n c : Nat} (hn : 1 ≤ n) (hc : c + 1 < 160) (ty w v s : Int32) : ∃ σf, (((Re_lookAtEnded ty 1 w σ).bind fun q80 => (Re_take 125 q80).bind fun q86 => if s = 0 then Re_conditions_b113 (Re_conditions_b4 n) (v ||| (q86 15 6)) (nI c) q86 else if isPo (ix (q86 15 2)) then (Po_append (ix (q86 15 2)) 33 0 q86).bind fun q100 => Re_conditions_b113 (Re_conditions_b4 n) v (nI c) q100 else none)).bind cF = some σf ∧ Dead p σ0 len true ρ σf := by
  obtain ⟨σ1, e1, h1⟩ := dd_tk hC h (v := 125) (by decide)
  rw [dd_le hC h, Option.bind_some, e1, Option.bind_some]
  exact c86_d hC h1 hn hc v s
theorem K_ref {n : Nat} {ρ : Int32} {τ : Mem} (hρ : ρ ≠ 0) (h : RefM τ0 ρ τ) (v : Int32) : ∃ τf, Mo_readConditions_b5 (n + 1) v τ = some τf ∧ RefM τ0 ρ τf := by
  obtain ⟨i, g, top, l, a, f, C, N, F, hl, rfl⟩ := h
  refine ⟨_, ?_, i + 1, g, top, l, a, f, C, N, F, hl, rfl⟩
  rw [Mo_readConditions_b5, M_ρ, if_pos hρ]
  unfold Mo_readConditions_b227 Mo_readConditions_b248
  rw [M_ρ, if_pos hρ, M_i, nI_1, M_p14, M_ρ, if_pos hρ]
/-- { with its sign, as the reference opens it -/
theorem M_51 {i : Nat} {ρ g top : Int32} {l a : Nat} {f : Int32} {C N : Nat → Int32} {F : Mem} {k5 : Int32 → Mem → Option Mem} (v : Int32) : Mo_readConditions_b51 k5 v (mkM τ0 i ρ g top l a f C N F) = Mo_readConditions_b98 k5 FU 1 (mkM τ0 (i + 1) ρ g (nI 0) l a f C N (bR (mput (oF F 0 1 (i + 1)) 16 0 (if v = 63 then 0 else 1)) 0 g)) := by
  have q : pmIn 0 8 = true := by decide
  have q2 : (0 : Int32).toNatClampNeg = 0 := by decide
  unfold Mo_readConditions_b51 Mo_readConditions_b87
  rw [M_i, nI_1, M_p14, M_p17, M_opn (t := 0) (by omega) (by decide), Option.bind_some, if_pos q, if_pos q, q2, M_pF (by omega), M_pF (by omega), M_g, M_g, M_bRow (by omega), M_bRow (by omega), Option.bind_some, Option.bind_some]
  by_cases h : v = 63
  · rw [if_neg (fun z => z h), if_pos h]
    rfl
  · rw [if_pos h, if_neg h]
    rfl
theorem D_loop (hC : CT p σ0 τ0 len) : ∀ (n c i a : Nat) (P : Int32) (j : Nat) (L f : Int32) (K W : Nat → Int32) (l : Nat) (C N : Nat → Int32) (F : Mem) (g top : Int32) (nm : Nat), len < n + i → c < i → i ≤ len → j + 4 ≤ i → l ≤ j → a ≤ 12 → (f = 0 ∨ f = 1) → 400 ≤ nm + i →
    ∃ σf τf, (Re_conditions_b4 n g (nI c) (mkX p σ0 i 0 a P j L f K W)).bind cF = some σf ∧ ((Mo_here (mkM τ0 i 0 g top l a f C N F)).bind fun z => Mo_readConditions_b5 nm z.1 z.2) = some τf ∧ CondOut p σ0 τ0 len j l L K W C N σf τf
  | 0, _, _, _, _, _, _, _, _, _, _, _, _, _, _, _, _, hn, _, hi, _, _, _, _, _ => by omega
  | n + 1, c, i, a, P, j, L, f, K, W, l, C, N, F, g, top, nm, hn, hc, hi0, hj, hl, ha, hf, hnm => by
    have hlen := hC.2.1
    obtain ⟨nm, rfl⟩ : ∃ q, nm = q + 2 := ⟨nm - 2, by omega⟩
    have n160 : ¬ (160 : Int32) ≤ nI c := nI_ge (a := c) (b := 160) (by omega) n31
    rcases (show i = len ∨ i < len by omega) with hi | hi
    · subst hi
      have hdd : Dead p σ0 i false (-10 - nI i) (mkX p σ0 i 0 a P j L f K W) := Or.inr ⟨rfl, rfl, _, _, _, _, _, _, _, by omega, rfl⟩
      obtain ⟨σf, e1, h1⟩ := c4_d hC hdd (n := n + 1) (c := c) (by omega) (by omega) g
      obtain ⟨τf, e2, h2⟩ := K_ref (τ0 := τ0) (n := nm + 1) (τ := mkM τ0 i (-10 - nI i) g top l a f C N F) (dd_ne hC h1) ⟨_, _, _, _, _, _, _, _, _, by omega, rfl⟩ (-1)
      refine ⟨σf, τf, e1, ?_, Or.inl ⟨_, h1, h2⟩⟩
      rw [M_hereE hC, Option.bind_some]
      exact e2
    · rw [Re_conditions_b4, if_neg n160, r_nx hC hi, Option.bind_some, Option.bind_some, M_here hC hi, Option.bind_some]
      show ∃ σf τf, _ ∧ Mo_readConditions_b5 (nm + 2) (σ0 16 i) (mkM τ0 i 0 g top l a f C N F) = some τf ∧ _
      rw [Mo_readConditions_b5, M_ρ, if_neg (show ¬ ¬ (0 : Int32) = 0 from fun z => z rfl)]
      have nz0 : (-10 - nI i : Int32) ≠ 0 := ne_sub (by omega) (Or.inl rfl)
      have nz1 : (-10 - nI (i + 1) : Int32) ≠ 0 := ne_sub (by omega) (Or.inl rfl)
      by_cases hb : ¬ (σ0 16 i = 63 ∨ σ0 16 i = 33)
      · have h63 : ¬ σ0 16 i = 63 := fun z => hb (Or.inl z)
        have h33 : ¬ σ0 16 i = 33 := fun z => hb (Or.inr z)
        rw [if_neg h63, if_neg h63, if_pos h33, if_pos h33, Option.bind_some]
        unfold cF Mo_readConditions_b227
        rw [M_ρ, if_neg (show ¬ ¬ (0 : Int32) = 0 from fun z => z rfl)]
        by_cases h59 : σ0 16 i = 59
        · rw [r_tk hC hi h59, Option.bind_some, x_len, x_pos, hC.2.2.1, if_pos h59]
          unfold Mo_readConditions_b248
          rw [M_i, nI_1, M_p14, M_ρ, if_neg (show ¬ ¬ (0 : Int32) = 0 from fun z => z rfl), M_n, M_i, hC.2.2.2.2.1]
          rcases (show i + 1 = len ∨ i + 1 < len by omega) with he | he
          · rw [if_pos (nI_le (by omega) (by omega)), if_pos (nI_le (by omega) (by omega))]
            exact ⟨_, _, rfl, rfl, Or.inr ⟨i + 1, i + 1, a, P, j, l, L, f, K, W, C, N, F, g, top, [], rfl, rfl, ⟨by omega, by omega, ha, hf⟩, rfl, rfl, trivial, ⟨0, (Int32.or_zero).symm⟩, fun _ _ => ⟨rfl, rfl⟩, fun _ _ => ⟨rfl, rfl⟩⟩⟩
          · rw [if_neg (nI_ge he (by omega)), if_neg (nI_ge he (by omega)), r_rb (i + 1) rfl, M_blame, Option.bind_some]
            exact ⟨_, _, rfl, rfl, Or.inl ⟨_, Or.inl ⟨nz1, _, _, _, _, _, _, _, _, by omega, by omega, rfl⟩, ⟨_, _, _, _, _, _, _, _, _, by omega, rfl⟩⟩⟩
        · rw [r_tkN hC hi h59, Option.bind_some, x_len, x_pos, hC.2.2.1, if_neg (nI_ge hi (by omega)), r_rbR nz0, if_neg h59, M_i, M_blame, Option.bind_some]
          unfold Mo_readConditions_b248
          rw [M_i, nI_1, M_p14, M_ρ, if_pos nz0]
          exact ⟨_, _, rfl, rfl, Or.inl ⟨_, Or.inl ⟨nz0, _, _, _, _, _, _, _, _, by omega, by omega, rfl⟩, ⟨_, _, _, _, _, _, _, _, _, by omega, rfl⟩⟩⟩
      have hb : σ0 16 i = 63 ∨ σ0 16 i = 33 := Classical.not_not.mp hb
      obtain ⟨s, hs, hs2⟩ : ∃ s : Int32, s = (if σ0 16 i = 63 then 0 else 1) ∧ (s = 0 ∨ s = 1) := ⟨_, rfl, by
        by_cases h : σ0 16 i = 63
        · rw [if_pos h]; exact Or.inl rfl
        · rw [if_neg h]; exact Or.inr rfl⟩
      have hcl : (if σ0 16 i = 63 then Re_conditions_b29 (Re_conditions_b4 n) g (nI c) (mkX p σ0 i 0 a P j L f K W) else if ¬ σ0 16 i = 33 then some (mkX p σ0 i 0 a P j L f K W) else Re_conditions_b29 (Re_conditions_b4 n) g (nI c) (mkX p σ0 i 0 a P j L f K W)) = Re_conditions_b43 (Re_conditions_b4 n) g (nI c) s (mkX p σ0 i 0 a P j L f K W) := by
        unfold Re_conditions_b29
        rw [r_nx hC hi, Option.bind_some, hs]
        rcases hb with e | e <;> rw [e] <;> rfl
      have hrf : (if σ0 16 i = 63 then Mo_readConditions_b24 (Mo_readConditions_b5 (nm + 1)) (σ0 16 i) (mkM τ0 i 0 g top l a f C N F) else if ¬ σ0 16 i = 33 then Mo_readConditions_b227 (σ0 16 i) (mkM τ0 i 0 g top l a f C N F) else Mo_readConditions_b24 (Mo_readConditions_b5 (nm + 1)) (σ0 16 i) (mkM τ0 i 0 g top l a f C N F)) = Mo_readConditions_b24 (Mo_readConditions_b5 (nm + 1)) (σ0 16 i) (mkM τ0 i 0 g top l a f C N F) := by
        rcases hb with e | e <;> rw [e] <;> rfl
      rw [hcl, hrf]
      unfold Re_conditions_b43 Mo_readConditions_b24
      rw [x_pos, nI_1, x_p3, M_i, nI_1, M_p14]
      -- a dead class behind the brace, against a refused reference
      have hbad : ∀ ρ F1, ρ ≠ 0 → ∃ τf, Mo_readConditions_b51 (Mo_readConditions_b5 (nm + 1)) (σ0 16 i) (mkM τ0 (i + 1) ρ g top l a f C N F1) = some τf ∧ RefM τ0 ρ τf := by
        intro ρ F1 hρ
        rw [M_51]
        show ∃ τf, Mo_readConditions_b98 _ (2099 + 1) 1 _ = some τf ∧ _
        rw [L_ref 1 hρ]
        exact K_ref hρ ⟨_, _, _, _, _, _, _, _, _, by omega, rfl⟩ (-1)
      have hdead : ∀ b ρ σ, Dead p σ0 len b ρ σ → ∃ σf, (((Re_rc 64 0 0 g σ).bind fun q69 => (Re_lookAtEnded q69.1 1 (σ 15 3) q69.2).bind fun q80 => (Re_take 125 q80).bind fun q86 => if s = 0 then Re_conditions_b113 (Re_conditions_b4 n) (g ||| (q86 15 6)) (nI c) q86 else if isPo (ix (q86 15 2)) then (Po_append (ix (q86 15 2)) 33 0 q86).bind fun q100 => Re_conditions_b113 (Re_conditions_b4 n) g (nI c) q100 else none)).bind cF = some σf ∧ Dead p σ0 len true ρ σf := by
        intro b ρ σ h
        obtain ⟨ty, σ1, e1, h1⟩ := dp0 hC 59 0 g b ρ σ h
        rw [e1, Option.bind_some]
        exact c69_d hC h1 (by omega) (by omega) ty (σ 15 3) g s
      rcases (show i + 1 = len ∨ i + 1 < len by omega) with he | he
      · have hdd : Dead p σ0 len false (-10 - nI len) (mkX p σ0 len 0 a P j L f K W) := Or.inr ⟨rfl, rfl, _, _, _, _, _, _, _, by omega, rfl⟩
        obtain ⟨σ1, e1, h1⟩ := dd_tk hC hdd (v := 123) (by decide)
        obtain ⟨σf, e2, h2⟩ := hdead true _ σ1 h1
        obtain ⟨τf, e3, h3⟩ := hbad (-10 - nI len) F (dd_ne hC h1)
        rw [he] at e3 ⊢
        rw [e1, Option.bind_some, M_hereE hC, Option.bind_some]
        show ∃ σf τf, _ ∧ (if (-1 : Int32) = 123 then _ else (Mo_blame (nI len) (mkM τ0 len (-10 - nI len) g top l a f C N F)).bind fun q48 => Mo_readConditions_b51 (Mo_readConditions_b5 (nm + 1)) (σ0 16 i) q48) = some τf ∧ _
        rw [if_neg (by decide), M_blameR _ (dd_ne hC h1), Option.bind_some]
        exact ⟨σf, τf, e2, e3, Or.inl ⟨_, h2, h3⟩⟩
      rw [M_here hC he, Option.bind_some]
      show ∃ σf τf, _ ∧ (if σ0 16 (i + 1) = 123 then Mo_readConditions_b51 (Mo_readConditions_b5 (nm + 1)) (σ0 16 i) (mkM τ0 (i + 1) 0 g top l a f C N F) else (Mo_blame (nI (i + 1)) (mkM τ0 (i + 1) 0 g top l a f C N F)).bind fun q48 => Mo_readConditions_b51 (Mo_readConditions_b5 (nm + 1)) (σ0 16 i) q48) = some τf ∧ _
      by_cases h123 : ¬ σ0 16 (i + 1) = 123
      · have hdd : Dead p σ0 len true (-10 - nI (i + 1)) (mkX p σ0 (i + 1) (-10 - nI (i + 1)) a P j L f K W) := Or.inl ⟨nz1, _, _, _, _, _, _, _, _, by omega, by omega, rfl⟩
        obtain ⟨σf, e2, h2⟩ := hdead true _ _ hdd
        obtain ⟨τf, e3, h3⟩ := hbad (-10 - nI (i + 1)) F nz1
        rw [r_tkN hC he h123, Option.bind_some, if_neg h123, M_blame, Option.bind_some]
        exact ⟨σf, τf, e2, e3, Or.inl ⟨_, h2, h3⟩⟩
      have h123 : σ0 16 (i + 1) = 123 := Classical.not_not.mp h123
      rw [r_tk hC he h123, Option.bind_some, if_pos h123, M_51]
      obtain ⟨G, hG, e1⟩ := L_1 (τ0 := τ0) (k5 := Mo_readConditions_b5 (nm + 1)) (i := i + 1 + 1) (g := g) (l := l) (a := a) (f := f) (C := C) (N := N) (F := bR (mput (oF F 0 1 (i + 1 + 1)) 16 0 (if σ0 16 i = 63 then 0 else 1)) 0 g) (d := 0) (m := FU) (by omega) (by unfold FU; omega)
      rw [e1]
      have hP : Pre len 0 (i + 1 + 1) a j l FU f := ⟨by omega, by omega, by omega, hl, ha, by unfold FU; omega, hf⟩
      obtain ⟨y1, y2, y3, y4, y5, y6, y7⟩ := bR_at (F := mput (oF F 0 1 (i + 1 + 1)) 16 0 (if σ0 16 i = 63 then 0 else 1)) (d := 0) (v := g)
      have y14 : bR (mput (oF F 0 1 (i + 1 + 1)) 16 0 (if σ0 16 i = 63 then 0 else 1)) 0 g 14 0 = 1 := by rw [bR_ne (by omega), mput_ne (by omega)]; exact oF_at.1
      have y16 : bR (mput (oF F 0 1 (i + 1 + 1)) 16 0 (if σ0 16 i = 63 then 0 else 1)) 0 g 16 0 = s := by rw [bR_ne (by omega), mput_eq, hs]
      obtain ⟨ty, σ1, e2, o⟩ := T_top (k5 := Mo_readConditions_b5 (nm + 1)) hC g (i + 1 + 1) a P j L f K W l C N _ g FU FU G hP (by unfold FU; omega) (by rw [y14]; decide) y1 y2 y3 y4 y5 y6 y7 hG
      rw [show Re_rc 64 0 0 g (mkX p σ0 (i + 1 + 1) 0 a P j L f K W) = some (ty, σ1) from e2, Option.bind_some]
      show ∃ σf τf, (((Re_lookAtEnded ty 1 (nI (i + 1 + 1)) σ1).bind fun q80 => (Re_take 125 q80).bind fun q86 => if s = 0 then Re_conditions_b113 (Re_conditions_b4 n) (g ||| (q86 15 6)) (nI c) q86 else if isPo (ix (q86 15 2)) then (Po_append (ix (q86 15 2)) 33 0 q86).bind fun q100 => Re_conditions_b113 (Re_conditions_b4 n) g (nI c) q100 else none)).bind cF = some σf ∧ _
      rcases o with ⟨ρ, τ1, o1, o2, o3⟩ | ⟨i1, a1, P1, j1, l1, L1, f1, K1, W1, C1, N1, F1, t1, de1, m1, rfl, rfl, b1, b2, b4, b5, b6, ⟨g36, g37, g38⟩, b8⟩
      · obtain ⟨σf, e3, h3⟩ := c69_d hC o1 (n := n) (c := c) (by omega) (by omega) ty (nI (i + 1 + 1)) g s
        obtain ⟨τf, e4, h4⟩ := K_ref (n := nm) (dd_ne hC o1) o2 (-1)
        exact ⟨σf, τf, e3, o3.trans e4, Or.inl ⟨ρ, h3, h4⟩⟩
      have hP1 := Pre_ex (m1 := m1 + 1) hP b5 (by omega) b2 b4
      have hl1 : l1 + 1 < 160 := by have := hP1.2.2.1; have := hP1.2.2.2.1; omega
      have hj1 : j1 + 6 ≤ i1 := by have := hP1.2.2.1; omega
      have hm1 : 1 ≤ m1 := by have := hP1.2.2.2.2.2.1; omega
      obtain ⟨m1, rfl⟩ : ∃ q, m1 = q + 1 := ⟨m1 - 1, by omega⟩
      have x14 : F1 14 0 = 1 := by rw [b6 14 0 (by omega) (by omega)]; exact y14
      have x16 : F1 16 0 = s := by rw [b6 16 0 (by omega) (by omega)]; exact y16
      have ht1 := b5.1.2.2.2.2.2.2
      rw [b8, row_brc (by omega) x14, g37]
      rcases (show t1 = 0 ∨ t1 = 1 by omega) with rfl | rfl
      · have nz : (-1000 - nI (i + 1 + 1) : Int32) ≠ 0 := ne_sub (by omega) (Or.inr rfl)
        have hdd : Dead p σ0 len true (-1000 - nI (i + 1 + 1)) (mkX p σ0 i1 (-1000 - nI (i + 1 + 1)) a1 P1 j1 L1 f1 K1 W1) := Or.inl ⟨nz, _, _, _, _, _, _, _, _, by omega, by omega, rfl⟩
        obtain ⟨σf, e3, h3⟩ := c69_d hC hdd (n := n) (c := c) (by omega) (by omega) (nI 0) (nI (i + 1 + 1)) g s
        rw [dd_le hC hdd, Option.bind_some] at e3
        rw [r_le hC b1, r_lkN _ (show ¬ nI 0 = 1 by decide), Option.bind_some, if_neg (show ¬ nI (0 + 1) = 2 by decide), r84 (by omega) g36 (by omega), Option.bind_some, AF_ref i1 nz]
        obtain ⟨τf, e4, h4⟩ := K_ref (τ0 := τ0) (n := nm) (τ := mkM τ0 i1 (-1000 - nI (i + 1 + 1)) g (nI 0) l1 a1 f1 C1 N1 F1) nz ⟨_, _, _, _, _, _, _, _, _, by omega, rfl⟩ (-1)
        exact ⟨σf, τf, e3, e4, Or.inl ⟨_, h3, h4⟩⟩
      rw [r_le hC b1, r_lk _ (show nI 1 = 1 from rfl), Option.bind_some, if_pos (show nI (1 + 1) = 2 from rfl), row141 (by omega)]
      by_cases h125 : ¬ σ0 16 i1 = 125
      · have nz : (-10 - nI i1 : Int32) ≠ 0 := ne_sub (by omega) (Or.inl rfl)
        have hdd : Dead p σ0 len true (-10 - nI i1) (mkX p σ0 i1 (-10 - nI i1) a1 P1 j1 L1 f1 K1 W1) := Or.inl ⟨nz, _, _, _, _, _, _, _, _, by omega, by omega, rfl⟩
        obtain ⟨σf, e3, h3⟩ := c86_d hC hdd (n := n) (c := c) (by omega) (by omega) g s
        rw [r_tkN hC b1 h125, Option.bind_some, if_neg h125, Option.bind_some, AF_ref i1 nz]
        obtain ⟨τf, e4, h4⟩ := K_ref (τ0 := τ0) (n := nm) (τ := mkM τ0 i1 (-10 - nI i1) g (nI 0) l1 a1 f1 C1 N1 F1) nz ⟨_, _, _, _, _, _, _, _, _, by omega, rfl⟩ (-1)
        exact ⟨σf, τf, e3, e4, Or.inl ⟨_, h3, h4⟩⟩
      have h125 : σ0 16 i1 = 125 := Classical.not_not.mp h125
      have hii : i + 1 + 1 < i1 := b5.1.1
      have hjj : j < j1 := b5.1.2.1
      have hll : l ≤ l1 := b5.2.2.2.2.1.1
      have hlj : l1 ≤ j1 := hP1.2.2.2.1
      rw [r_tk hC b1 h125, Option.bind_some, if_pos h125, R157_brc (by omega) x14 (by omega), Option.bind_some, x16, g38]
      have hAF : ∀ g2 C2 N2, AF (Mo_readConditions_b5 (nm + 1)) (m1 + 1) i1 (mkM τ0 (i1 + 1) 0 g2 (-1) (l1 + 1) a1 f1 C2 N2 F1) = (Mo_here (mkM τ0 (i1 + 1) 0 g2 (-1) (l1 + 1) a1 f1 C2 N2 F1)).bind fun z => Mo_readConditions_b5 (nm + 1) z.1 z.2 := by
        intro g2 C2 N2
        unfold AF Mo_readConditions_b136
        rw [M_ρ, if_neg (show ¬ ¬ (0 : Int32) = 0 from fun z => z rfl), M_i, if_neg (nI_ge (by omega) (by omega)), if_pos (pmIn_nI (by omega) n31), M_x, nI_clamp (by omega), ← (hC.2.2.2.2.2 i1 b1).1, h125]
        unfold Mo_readConditions_b161
        rw [if_neg (by decide), if_neg (by decide), if_neg (by decide), if_neg (by decide), if_pos (by decide), Mo_readConditions_b98, M_t, if_pos (by decide)]
        unfold Mo_readConditions_b208
        rw [M_ρ, if_neg (show ¬ ¬ (0 : Int32) = 0 from fun z => z rfl)]
      rw [hAF]
      have hseg1 := b5.2.2.2.1
      have hseg2 := b5.2.2.2.2.1
      have htr := b5.2.2.2.2.2.1 rfl
      have ha1 : a1 ≤ 12 := b5.1.2.2.2.2.2.1
      rcases hs2 with rfl | rfl
      · rw [if_pos rfl, if_pos rfl, if_pos rfl]
        unfold Re_conditions_b113
        rw [ct_ix hC, if_pos hC.1, p_ap hC.1 (by omega), Option.bind_some, nI_1, x_prv]
        obtain ⟨σf, τf, u1, u2, o⟩ := D_loop hC n (c + 1) (i1 + 1) a1 P1 (j1 + 1) (L1 ||| Po_bitsOf 63) f1 (upR1 K1 j1 63) (upR1 W1 j1 0) (l1 + 1) (upR1 C1 l1 5) (upR1 N1 l1 0) F1 (g ||| P1) (-1) (nm + 1) (by omega) (by omega) (by omega) (by omega) (by omega) ha1 b4 (by omega)
        refine ⟨σf, τf, u1, u2, ?_⟩
        rcases o with o | ⟨i3, i4, a3, P3, j3, l3, L3, f3, K3, W3, C3, N3, F3, g3, top3, cs, s1, s2, s3, s4, s5, s6, ⟨x, s7⟩, s8, s9⟩
        · exact Or.inl o
        · obtain ⟨y, hy⟩ := b5.2.1
          have q1 := CondsX_le cs _ s4
          have q2 := CondsM_le cs _ s5
          refine Or.inr ⟨i3, i4, a3, P3, j3, l3, L3, f3, K3, W3, C3, N3, F3, g3, top3, (de1, false) :: cs, s1, s2, s3, ?_, ?_, ⟨?_, s6⟩, ⟨y ||| Po_bitsOf 63 ||| x, by rw [s7, hy, or_as, or_as, or_as]⟩, fun q hq => ?_, fun q hq => ?_⟩
          · refine ⟨j1, a1 - a, SegX_cg hseg1 (fun q z1 z2 => ?_), by omega, htr, ?_⟩
            · rw [(s8 q (by omega)).1, (s8 q (by omega)).2, up_ne (by omega), up_ne (by omega)]
              exact ⟨rfl, rfl⟩
            · rw [if_neg (by decide)]
              exact ⟨by omega, by rw [(s8 j1 (by omega)).1, up_eq], s4⟩
          · refine ⟨l1, a1 - a, SegM_cg hseg2 (fun q z1 z2 => ?_), by omega, htr, by omega, ?_, s5⟩
            · rw [(s9 q (by omega)).1, (s9 q (by omega)).2, up_ne (by omega), up_ne (by omega)]
              exact ⟨rfl, rfl⟩
            · rw [(s9 l1 (by omega)).1, up_eq]
              rfl
          · rw [s7]
            exact DepE_up (DepE_up b5.2.2.1)
          · rw [(s8 q (by omega)).1, (s8 q (by omega)).2, up_ne (by omega), up_ne (by omega)]
            exact b5.2.2.2.2.2.2.1 q hq
          · rw [(s9 q (by omega)).1, (s9 q (by omega)).2, up_ne (by omega), up_ne (by omega)]
            exact b5.2.2.2.2.2.2.2 q hq
      · rw [if_neg (by decide), if_neg (show ¬ (1 : Int32) = 0 by decide), if_neg (show ¬ (1 : Int32) = 0 by decide), ct_ix hC, if_pos hC.1, p_ap hC.1 (by omega), Option.bind_some]
        unfold Re_conditions_b113
        rw [ct_ix hC, if_pos hC.1, p_ap hC.1 (by omega), Option.bind_some, nI_1]
        obtain ⟨σf, τf, u1, u2, o⟩ := D_loop hC n (c + 1) (i1 + 1) a1 P1 (j1 + 1 + 1) (L1 ||| Po_bitsOf 33 ||| Po_bitsOf 63) f1 (upR1 (upR1 K1 j1 33) (j1 + 1) 63) (upR1 (upR1 W1 j1 0) (j1 + 1) 0) (l1 + 1) (upR1 C1 l1 6) (upR1 N1 l1 0) F1 g (-1) (nm + 1) (by omega) (by omega) (by omega) (by omega) (by omega) ha1 b4 (by omega)
        refine ⟨σf, τf, u1, u2, ?_⟩
        rcases o with o | ⟨i3, i4, a3, P3, j3, l3, L3, f3, K3, W3, C3, N3, F3, g3, top3, cs, s1, s2, s3, s4, s5, s6, ⟨x, s7⟩, s8, s9⟩
        · exact Or.inl o
        · obtain ⟨y, hy⟩ := b5.2.1
          have q1 := CondsX_le cs _ s4
          have q2 := CondsM_le cs _ s5
          refine Or.inr ⟨i3, i4, a3, P3, j3, l3, L3, f3, K3, W3, C3, N3, F3, g3, top3, (de1, true) :: cs, s1, s2, s3, ?_, ?_, ⟨?_, s6⟩, ⟨y ||| Po_bitsOf 33 ||| Po_bitsOf 63 ||| x, by simp only [s7, hy, or_as]⟩, fun q hq => ?_, fun q hq => ?_⟩
          · refine ⟨j1, a1 - a, SegX_cg hseg1 (fun q z1 z2 => ?_), by omega, htr, ?_⟩
            · rw [(s8 q (by omega)).1, (s8 q (by omega)).2, up_ne (by omega), up_ne (by omega), up_ne (by omega), up_ne (by omega)]
              exact ⟨rfl, rfl⟩
            · rw [if_pos (by decide)]
              exact ⟨by omega, by rw [(s8 j1 (by omega)).1, up_ne (by omega), up_eq], by rw [(s8 (j1 + 1) (by omega)).1, up_eq], s4⟩
          · refine ⟨l1, a1 - a, SegM_cg hseg2 (fun q z1 z2 => ?_), by omega, htr, by omega, ?_, s5⟩
            · rw [(s9 q (by omega)).1, (s9 q (by omega)).2, up_ne (by omega), up_ne (by omega)]
              exact ⟨rfl, rfl⟩
            · rw [(s9 l1 (by omega)).1, up_eq]
              rfl
          · rw [s7]
            exact DepE_up (DepE_up (DepE_up b5.2.2.1))
          · rw [(s8 q (by omega)).1, (s8 q (by omega)).2, up_ne (by omega), up_ne (by omega), up_ne (by omega), up_ne (by omega)]
            exact b5.2.2.2.2.2.2.1 q hq
          · rw [(s9 q (by omega)).1, (s9 q (by omega)).2, up_ne (by omega), up_ne (by omega)]
            exact b5.2.2.2.2.2.2.2 q hq
end
