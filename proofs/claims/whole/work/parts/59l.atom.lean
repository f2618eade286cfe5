theorem fb2 : (List.range 32).all (fun u => (List.range 32).all (fun v => decide (nI u &&& 2 = nI v &&& 2 → u / 2 % 2 = v / 2 % 2))) = true := by decide +kernel
theorem fb1 : (List.range 32).all (fun u => (List.range 32).all (fun v => decide (nI u &&& 1 = nI v &&& 1 → u % 2 = v % 2))) = true := by decide +kernel
theorem fb28 : (List.range 32).all (fun u => (List.range 32).all (fun v => decide (nI u &&& 28 = nI v &&& 28 → u / 4 % 8 = v / 4 % 8))) = true := by decide +kernel
theorem val_d {x y L : Int32} {σ : Mem} {r r1 : Nat} (hr : r < 2048) (hr1 : r1 < 2048) (hp : r / 512 = r1 / 512) (ht : r / 32 % 4 = r1 / 32 % 4) (hL : nI (r % 32) &&& (L ||| Po_bitsOf x) = nI (r1 % 32) &&& (L ||| Po_bitsOf x)) : Wo_valueOf x y (nI r) σ = Wo_valueOf x y (nI r1) σ := by
  have hL := and_or_r hL
  have ep : Ps_personOf (nI r) = Ps_personOf (nI r1) := by rw [(rq_p hr).1, (rq_p hr1).1, hp]
  have et : Ps_thingOf (nI r) = Ps_thingOf (nI r1) := by rw [(rq_t hr).1, (rq_t hr1).1, ht]
  have h98 : x = 98 → (nI r >>> ((1 : Int32) &&& 31)) &&& 1 = (nI r1 >>> ((1 : Int32) &&& 31)) &&& 1 := by
    rintro rfl
    have := of_decide_eq_true (all2 fb2 (show r % 32 < 32 by omega) (show r1 % 32 < 32 by omega)) hL
    rw [pk_shrN (by omega) _ 1 (by decide), pk_andN (by omega) 1 (by decide), pk_shrN (by omega) _ 1 (by decide), pk_andN (by omega) 1 (by decide)]
    congr 1
    omega
  have h99 : x = 99 → nI r &&& 1 = nI r1 &&& 1 := by
    rintro rfl
    have := of_decide_eq_true (all2 fb1 (show r % 32 < 32 by omega) (show r1 % 32 < 32 by omega)) hL
    rw [pk_andN (by omega) 1 (by decide), pk_andN (by omega) 1 (by decide)]
    congr 1
    omega
  have h110 : x = 110 → (nI r >>> ((2 : Int32) &&& 31)) &&& 7 = (nI r1 >>> ((2 : Int32) &&& 31)) &&& 7 := by
    rintro rfl
    have := of_decide_eq_true (all2 fb28 (show r % 32 < 32 by omega) (show r1 % 32 < 32 by omega)) hL
    rw [pk_shrN (by omega) _ 2 (by decide), pk_andN (by omega) 3 (by decide), pk_shrN (by omega) _ 2 (by decide), pk_andN (by omega) 3 (by decide)]
    congr 1
    omega
  unfold Wo_valueOf
  rw [ep, et]
  by_cases e1 : x = 98
  · rw [if_pos e1, if_pos e1, h98 e1]
  · rw [if_neg e1, if_neg e1]
    by_cases e2 : x = 99
    · rw [if_pos e2, if_pos e2, h99 e2]
    · rw [if_neg e2, if_neg e2]
      by_cases e3 : x = 110
      · subst e3
        rw [h110 rfl]
      · simp only [e3, if_false]
theorem DepE_at (x y L : Int32) : DepE (L ||| Po_bitsOf x) (dAt x y) := by
  refine ⟨fun σ σ1 r hw => ?_, fun σw r r1 a b c d f g => ?_⟩
  · unfold dAt
    rw [val_w hw]
  · unfold dAt
    rw [val_d b c d f g]
theorem Ex_at {i a j l : Nat} {L : Int32} {K W C N : Nat → Int32} {i1 : Nat} {b w km wm : Int32} {t : Nat} (h : AtEq b w km wm (t == 1)) (ht : t < 2) (ha : a < 12) (hi : i < i1) :
    Ex i a j l L K W C N i1 (a + 1) (j + 1) (l + 1) (L ||| Po_bitsOf b) (upR1 K j b) (upR1 W j w) (upR1 C l km) (upR1 N l wm) t (dAt b w) := by
  have s := Seg_at (kx := upR1 K j b) (wx := upR1 W j w) (km := upR1 C l km) (wm := upR1 N l wm) (i := j) (j := l) (ty := (t == 1)) (by rw [up_eq, up_eq, up_eq, up_eq]; exact h)
  rw [up_eq, up_eq] at s
  refine ⟨⟨hi, by omega, by omega, by omega, by omega, by omega, ht⟩, ⟨_, rfl⟩, DepE_at b w L, ?_, ?_, fun e => ?_, fun q hq => ⟨up_ne (by omega), up_ne (by omega)⟩, fun q hq => ⟨up_ne (by omega), up_ne (by omega)⟩⟩
  · rw [Nat.add_sub_cancel_left]
    exact s.1
  · rw [Nat.add_sub_cancel_left]
    exact s.2
  · subst e
    exact Tr_at h
def isB (b : Int32) : Prop := b = 84 ∨ b = 70 ∨ b = 110 ∨ b = 98 ∨ b = 99 ∨ b = 111 ∨ b = 108
def isC (b : Int32) : Prop := b = 103 ∨ b = 102 ∨ b = 104 ∨ b = 109
section
variable {p : Nat} {σ0 τ0 : Mem} {len i : Nat} {a : Nat} {P : Int32} {j : Nat} {L f : Int32} {K W : Nat → Int32} {g : Int32} {l : Nat} {C N : Nat → Int32} {F : Mem} {d : Nat} {kn : Int32}
theorem cA_no (hC : CT p σ0 τ0 len) (hi : i < len) (h : Re_typeOf (σ0 16 i) = -1 ∨ a = 12) : Re_atom kn (mkX p σ0 i 0 a P j L f K W) = some (0, mkX p σ0 i (-10 - nI i) a 0 j L f K W) := by
  unfold Re_atom
  rw [r_nx hC hi, Option.bind_some, x_p6, x_atm]
  have e : Re_atom_b29 (mkX p σ0 i 0 a 0 j L f K W) = some (0, mkX p σ0 i (-10 - nI i) a 0 j L f K W) := by
    unfold Re_atom_b29
    rw [r_rb i rfl]
    rfl
  by_cases h1 : Re_typeOf (σ0 16 i) = -1
  · rw [if_pos h1]
    exact e
  · rw [if_neg h1, if_neg (fun z => z (by rw [h.resolve_left h1]; rfl))]
    exact e
theorem cA_b73 (hC : CT p σ0 τ0 len) (hj : j < 160) {b s : Int32} {t : Nat} {P0 : Int32} : Re_atom_b73 kn b (nI t) s (mkX p σ0 i 0 a P0 j L f K W) = some (nI t, mkX p σ0 i 0 a (if b = 104 then 1 <<< (s &&& 31) else P0) (j + 1) (L ||| Po_bitsOf b) (if b = 109 then (if Ps_hasBit kn s = 0 then 0 else f) else f) (upR1 K j b) (upR1 W j s)) := by
  unfold Re_atom_b73
  rw [ct_ix hC, if_pos hC.1, p_ap hC.1 hj, Option.bind_some]
  unfold Re_atom_b99
  by_cases h1 : b = 104
  · have h2 : ¬ b = 109 := by rw [h1]; decide
    simp only [h1, h2, not_true_eq_false, if_false, if_true, not_false_eq_true, x_p6]
    simp
  · by_cases h2 : b = 109
    · by_cases h3 : Ps_hasBit kn s = 0
      · simp only [h1, h2, h3, not_true_eq_false, if_false, if_true, not_false_eq_true, ct_ix hC, hC.1, x_q1 hC.1]
        simp
        exact hC.1
      · simp only [h1, h2, h3, not_true_eq_false, if_false, if_true, not_false_eq_true]
        simp
    · simp only [h1, h2, if_false, not_false_eq_true, if_true]
theorem cA_pl (hC : CT p σ0 τ0 len) (hi : i < len) (ha : a < 12) (hj : j < 160) {t : Nat} (ht : Re_typeOf (σ0 16 i) = nI t) (ht2 : t < 2) (hn : Re_isNumbered (σ0 16 i) = 0) : Re_atom kn (mkX p σ0 i 0 a P j L f K W) = some (nI t, mkX p σ0 (i + 1) 0 (a + 1) (if σ0 16 i = 104 then 1 <<< (Re_constantOf (σ0 16 i) &&& 31) else 0) (j + 1) (L ||| Po_bitsOf (σ0 16 i)) (if σ0 16 i = 109 then (if Ps_hasBit kn (Re_constantOf (σ0 16 i)) = 0 then 0 else f) else f) (upR1 K j (σ0 16 i)) (upR1 W j (Re_constantOf (σ0 16 i)))) := by
  unfold Re_atom
  have n1 : ¬ nI t = -1 := fun z => by
    have := nI_pos (n := t) (by omega)
    rw [z] at this
    exact this (by decide)
  have n2 : ¬ nI a = 12 := fun z => by
    have := (nI_eq (b := 12) (by omega) (by omega)).mp z
    omega
  rw [r_nx hC hi, Option.bind_some, x_p6, x_atm, ht, if_neg n1, if_pos n2, if_pos hn, x_pos, nI_1, x_p3, x_atm, nI_1, x_p5]
  exact cA_b73 hC hj
theorem cA_nu (hC : CT p σ0 τ0 len) (hi : i < len) (ha : a < 12) {t : Nat} (ht : Re_typeOf (σ0 16 i) = nI t) (ht2 : t < 2) (hn : ¬ Re_isNumbered (σ0 16 i) = 0) : Re_atom kn (mkX p σ0 i 0 a P j L f K W) = (Re_digit (mkX p σ0 (i + 1) 0 (a + 1) 0 j L f K W)).bind fun q63 => Re_atom_b73 kn (σ0 16 i) (nI t) q63.1 q63.2 := by
  unfold Re_atom
  have n1 : ¬ nI t = -1 := fun z => by
    have := nI_pos (n := t) (by omega)
    rw [z] at this
    exact this (by decide)
  have n2 : ¬ nI a = 12 := fun z => by
    have := (nI_eq (b := 12) (by omega) (by omega)).mp z
    omega
  rw [r_nx hC hi, Option.bind_some, x_p6, x_atm, ht, if_neg n1, if_pos n2, if_neg hn, x_pos, nI_1, x_p3, x_atm, nI_1, x_p5]
theorem cD_73 (hC : CT p σ0 τ0 len) {ρ : Int32} {σ : Mem} (h : Dead p σ0 len true ρ σ) (b t s : Int32) : ∃ ty σ1, Re_atom_b73 kn b t s σ = some (ty, σ1) ∧ Dead p σ0 len true ρ σ1 := by
  obtain ⟨σ2, e2, h2⟩ := dd_ap hC h b s
  have key : ∀ σ3, Dead p σ0 len true ρ σ3 → ∃ ty σ1, Re_atom_b99 kn b t s σ3 = some (ty, σ1) ∧ Dead p σ0 len true ρ σ1 := by
    intro σ3 h3
    unfold Re_atom_b99
    by_cases h1 : b = 109
    · by_cases h4 : Ps_hasBit kn s = 0
      · rw [if_neg (fun z => z h1), if_neg (fun z => z h4), dd_ix hC h3, if_pos hC.1]
        rcases h3 with ⟨h0, i, a, P, j, L, f, K, W, hj, hi, rfl⟩ | ⟨hb, -⟩
        · rw [x_q1 hC.1]
          exact ⟨_, _, rfl, Or.inl ⟨h0, _, _, _, _, _, _, _, _, hj, hi, rfl⟩⟩
        · cases hb
      · rw [if_neg (fun z => z h1), if_pos h4]
        exact ⟨_, _, rfl, h3⟩
    · rw [if_pos h1]
      exact ⟨_, _, rfl, h3⟩
  unfold Re_atom_b73
  rw [dd_ix hC h, if_pos hC.1, e2, Option.bind_some]
  by_cases h1 : b = 104
  · rw [if_neg (fun z => z h1)]
    exact key _ (dd_p6 h2 _)
  · rw [if_pos h1]
    exact key _ h2
theorem isOne_t {n : Nat} (hn : n < 256) : (Ps_isOne (nI n - 48) = 0 ∧ (n < 48 ∨ 51 < n)) ∨ ∃ q, q < 4 ∧ n = 48 + q ∧ ¬ Ps_isOne (nI n - 48) = 0 ∧ nI n - 48 = nI q := by
  have h : (List.range 256).all (fun n => decide ((Ps_isOne (nI n - 48) = 0 ∧ (n < 48 ∨ 51 < n)) ∨ ((48 ≤ n ∧ n < 52) ∧ ¬ Ps_isOne (nI n - 48) = 0 ∧ nI n - 48 = nI (n - 48)))) = true := by decide +kernel
  have := of_decide_eq_true (List.all_eq_true.mp h n (List.mem_range.mpr hn))
  rcases this with h | ⟨h1, h2, h3⟩
  · exact Or.inl h
  · exact Or.inr ⟨n - 48, by omega, by omega, h2, h3⟩
theorem M_rA (hC : CT p σ0 τ0 len) (hi : i < len) {z : Int32} (hz : (z = 0 ∧ (σ0 16 i < 48 ∨ 57 < σ0 16 i)) ∨ (z = 1 ∧ ¬ σ0 16 i < 48 ∧ ¬ 57 < σ0 16 i)) : Mo_readAtom (mkM τ0 i 0 g (nI d) l a f C N F) = Mo_readAtom_b27 (σ0 16 i) z (mkM τ0 i 0 g (nI d) l a f C N F) := by
  have hlen := hC.2.1
  unfold Mo_readAtom Mo_readAtom_b26
  rw [M_i, if_pos (pmIn_nI (by omega) n31), M_x, nI_clamp (by omega), ← (hC.2.2.2.2.2 i hi).1]
  rcases hz with ⟨rfl, h | h⟩ | ⟨rfl, h, h2⟩
  · rw [if_pos h]
  · by_cases h0 : σ0 16 i < 48
    · rw [if_pos h0]
    · rw [if_neg h0, if_pos h]
  · rw [if_neg h, if_neg h2]
theorem M_120 {v1 v2 v3 : Int32} (ha : a < 12) : Mo_readAtom_b120 v1 v2 v3 (mkM τ0 i 0 g (nI d) l a f C N F) = Mo_readAtom_b175 v1 v2 v3 (if v2 = 0 then 0 else v1 - 48) (mkM τ0 (i + 1) 0 g (nI d) l (a + 1) f C N F) := by
  have n2 : ¬ nI a = 12 := fun z => by
    have := (nI_eq (b := 12) (by omega) (by omega)).mp z
    omega
  have q3 : pmIn 16 17 = true := by decide
  unfold Mo_readAtom_b120
  by_cases h : v2 = 0
  · simp only [q3, if_true, M_a, n2, not_false_eq_true, h, nI_1, M_p9, M_i, M_p14]
  · simp only [q3, if_true, M_a, n2, not_false_eq_true, h, if_false, nI_1, M_p9, M_i, M_p14]
theorem M_120F {v1 v2 v3 : Int32} (ha : a = 12) : Mo_readAtom_b120 v1 v2 v3 (mkM τ0 i 0 g (nI d) l a f C N F) = some (0, mkM τ0 i (-10 - nI i) g (nI d) l a f C N F) := by
  have q3 : pmIn 16 17 = true := by decide
  have n2 : nI a = 12 := by rw [ha]; rfl
  unfold Mo_readAtom_b120 Mo_readAtom_b132
  simp only [q3, if_true, M_a, n2, not_true_eq_false, if_false, M_i, M_blame, Option.bind_some]
theorem M_238 (hl : l < 160) {v1 v2 v5 s1 : Int32} {t : Nat} (hd : d < 8) (hK : Kn F d kn) (hf : f = 0 ∨ f = 1) (ht : ∀ τ, Mo_readAtom_b284 v1 v2 τ = some (nI (t + 1), τ)) : Mo_readAtom_b238 v1 v2 v5 s1 (mkM τ0 i 0 g (nI d) l a f C N F) = some (nI (t + 1), mkM τ0 i 0 g (nI d) (l + 1) a (if v1 = 109 then (if Ps_hasBit kn v5 = 0 then 0 else f) else f) (upR1 C l s1) (upR1 N l v5) F) := by
  have q3 : pmIn 16 17 = true := by decide
  have q4 : (16 : Int32).toNatClampNeg = 16 := by decide
  unfold Mo_readAtom_b238 Mo_readAtom_b282 Mo_readAtom_b283
  rw [M_emit hl, Option.bind_some]
  by_cases h1 : v1 = 109
  · have z0 : ((0 : Int32) == 0 || (0 : Int32) == 1) = true := by decide
    have z1 : ((1 : Int32) == 0 || (1 : Int32) == 1) = true := by decide
    have z2 : ¬ (1 : Int32) = 0 := by decide
    unfold Ps_hasBit
    by_cases h2 : ((kn >>> (v5 &&& 31)) &&& 1) = 1
    · rcases hf with rfl | rfl <;> simp only [h1, h2, q3, q4, M_f, M_known hd hK, Option.bind_some, not_true_eq_false, not_false_eq_true, if_false, if_true, z0, z1, z2, M_p10] <;> (rw [← h1]; exact ht _)
    · rcases hf with rfl | rfl <;> simp only [h1, h2, q3, q4, M_f, M_known hd hK, Option.bind_some, not_true_eq_false, not_false_eq_true, if_false, if_true, z0, z1, z2, M_p10] <;> (rw [← h1]; exact ht _)
  · rw [if_pos h1, ht, if_neg h1]
end
